section
abbrev PLS (mem TT : Int → Int → Int) (LL : Int → Int) : Prop := 0 ≤ mem 35 16 ∧ mem 35 16 ≤ 12 ∧ ∀ t : Int, 0 ≤ t → t ≤ mem 35 16 - 1 → (0 ≤ LL t ∧ LL t ≤ 160) ∧ (fauP (TT t) (LL t)).1 = -1 ∧ SG (mem 41) (620 * t) (fauP (TT t) (LL t)).2.2 ∧ mem 42 t = (fauP (TT t) (LL t)).2.2.length ∧ mem 42 t ≤ 340
def wA (T : Int → Int) (L c : Int) : Int := worV T L (envF 0 0 0) c
def wB (T : Int → Int) (L a m first c k : Int) : Int := worV T L (envF k (k / m) (first + k * a)) c
def mx0 (x : Int) : Int := if 0 < x then x else 0
abbrev pgC1 (mem : Int → Int → Int) (f first n t : Int) : Prop := (0 ≤ f ∧ f ≤ mem 35 6 - 1) ∧ (1 ≤ first ∧ first ≤ 9999) ∧ (2 ≤ n ∧ n ≤ 40) ∧ (0 ≤ t ∧ t ≤ mem 35 16 - 1) ∧ mem 35 33 ≠ 12
abbrev pgH (first n a o p c m h : Int) : Prop := (1 ≤ a ∧ a ≤ 50) ∧ (1 ≤ o ∧ o ≤ 4) ∧ (0 ≤ p ∧ p ≤ 5) ∧ (0 ≤ c ∧ c ≤ 6 - p) ∧ (o + 2 ≤ m ∧ m ≤ 40) ∧ (0 ≤ h ∧ h ≤ 2) ∧ first + (n - 1) * a ≤ 9999
abbrev pgC2 (T : Int → Int) (L first n : Int) : Prop := pgH first n (wA T L 97) (wA T L 111) (wA T L 112) (wA T L 99) (wA T L 109) (wA T L 102)
def pgC3 (T : Int → Int) (L first n : Int) : Prop := ∀ k : Int, 0 ≤ k → k < n → (0 ≤ wB T L (wA T L 97) (wA T L 109) first 104 k ∧ wB T L (wA T L 97) (wA T L 109) first 104 k ≤ 7) ∧ (0 ≤ wB T L (wA T L 97) (wA T L 109) first 107 k ∧ wB T L (wA T L 97) (wA T L 109) first 107 k ≤ 3)
def PGF (mem mm : Int → Int → Int) : Prop := ∀ a j : Int, a ≠ 43 → a ≠ 44 → ¬ (a = 35 ∧ j = 19) → ¬ (54 ≤ a ∧ a ≤ 58 ∧ 40 * mem 35 33 ≤ j) → mm a j = mem a j
abbrev PGR (mm : Int → Int → Int) (T : Int → Int) (L a m first P k : Int) : Prop := mm 54 (40 * P + k) = wB T L a m first 104 k ∧ mm 55 (40 * P + k) = wB T L a m first 115 k ∧ mm 56 (40 * P + k) = wB T L a m first 107 k ∧ mm 57 (40 * P + k) = mx0 (wB T L a m first 116 k) ∧ mm 58 (40 * P + k) = wB T L a m first 116 k
def PGM (mem mm : Int → Int → Int) (T : Int → Int) (L f first n : Int) : Prop := (∀ a j : Int, a ≠ 43 → a ≠ 44 → ¬ (a = 35 ∧ (j = 19 ∨ j = 33)) → ¬ (54 ≤ a ∧ a ≤ 58 ∧ 40 * mem 35 33 ≤ j) → ¬ (45 ≤ a ∧ a ≤ 53 ∧ j = mem 35 33) → mm a j = mem a j) ∧ mm 35 33 = mem 35 33 + 1 ∧ mm 45 (mem 35 33) = f ∧ mm 46 (mem 35 33) = first ∧ mm 47 (mem 35 33) = n ∧ mm 48 (mem 35 33) = wA T L 97 ∧ mm 49 (mem 35 33) = wA T L 111 ∧ mm 50 (mem 35 33) = wA T L 112 ∧ mm 51 (mem 35 33) = wA T L 99 ∧ mm 52 (mem 35 33) = wA T L 109 ∧ mm 53 (mem 35 33) = wA T L 102 ∧ ∀ k : Int, 0 ≤ k → k < n → PGR mm T L (wA T L 97) (wA T L 109) first (mem 35 33) k
theorem wA_in {T : Int → Int} {L : Int} (c : Int) (h0 : 0 ≤ L) (h : (fauP T L).1 = -1) : InI (wA T L c) := worV_in (envF_in (by decide) (by decide) (by decide)) h0 h
theorem wB_in {T : Int → Int} {L a m first k : Int} (c : Int) (h1 : InI k) (h2 : InI (k / m)) (h3 : InI (first + k * a)) (h0 : 0 ≤ L) (h : (fauP T L).1 = -1) : InI (wB T L a m first c k) := worV_in (envF_in h1 h2 h3) h0 h
theorem PGM.of {mem m3 mm : Int → Int → Int} {T : Int → Int} {L f first n P : Int} (hP : P = mem 35 33) (hf : PGF mem m3) (hr : ∀ k : Int, 0 ≤ k → k < n → PGR m3 T L (wA T L 97) (wA T L 109) first P k) (h : mm = set2 (set2 (set2 (set2 (set2 (set2 (set2 (set2 (set2 (set2 m3 45 P f) 46 P first) 47 P n) 48 P (wA T L 97)) 49 P (wA T L 111)) 50 P (wA T L 112)) 51 P (wA T L 99)) 52 P (wA T L 109)) 53 P (wA T L 102)) 35 33 (P + 1)) : PGM mem mm T L f first n := by
  subst hP
  subst h
  refine ⟨fun a j q1 q2 q3 q4 q5 => ?_, ?_, ?_, ?_, ?_, ?_, ?_, ?_, ?_, ?_, ?_, fun k h1 h2 => ?_⟩
  · simp only [set2]
    rw [if_neg (by omega), if_neg (by omega), if_neg (by omega), if_neg (by omega), if_neg (by omega), if_neg (by omega), if_neg (by omega), if_neg (by omega), if_neg (by omega), if_neg (by omega)]
    exact hf a j q1 q2 (by omega) q4
  all_goals first | (simp [set2]; done) | skip
  have := hr k h1 h2
  unfold PGR at this ⊢
  simpa [set2] using this
set_option maxHeartbeats 4000000 in
set_option maxRecDepth 100000 in
theorem c_X12_label {l : Launch} {g : GP} (hG : GH g) {kd : Int → Nat} {ln : Int → Int} {mem : Int → Int → Int} {sz : Nat} (hS : SK kd ln) (hR : SR mem) (t c : Int) (h_c : InI c) (T : Int → Int) (L : Int) (hL : 0 ≤ L ∧ L ≤ 160) (hfa : (fauP T L).1 = -1) (htt : 0 ≤ t ∧ t ≤ 11) (hsg : SG (mem 41) (620 * t) (fauP T L).2.2) (h42 : mem 42 t = (fauP T L).2.2.length ∧ mem 42 t ≤ 340) : MT l g yX12_label cX12_label 3 (some .int) 5 0 0 [(2, 35), (0, t), (0, c)] kd ln mem sz (pMR 0 (fun v mem' => SR mem' ∧ (v = wA T L c ∧ WOF mem mem')) kd ln sz) := by
  refine MT_of hG (by decide +kernel) (Nat.le_of_ble_eq_true rfl) (fun z hF hr hn => ?_)
  refine jblk hF [(.aload_n 0, 1), (.iload_n 1, 1), (.iload_n 2, 1), (.iconst 0, 1), (.iconst 0, 1), (.iconst 0, 1)] (by decide +kernel) (pc' := 6) (lo' := [(0, (2, 35)), (1, (0, t)), (2, (0, c))]) (st' := [(0, 0), (0, 0), (0, 0), (0, c), (0, t), (2, 35)]) rfl ?_
  refine jcallV hF (c_X12_worthOf hG hS hR t c 0 0 0 (by omega) (by decide) (by decide) (by decide) (by exact T) (by exact L) (by assumption) (by assumption) (by omega) (by assumption) (by omega)) MW_X12_worthOf 13 (by decide) (by exact hS.k35) wd_1899 wd_1901 wd_p68 (by decide +kernel) [] rfl rfl (by decide) (Nat.le_of_ble_eq_true rfl) (by decide) (kMR (fun v_3 m_1 h_2 => ?_))
  obtain ⟨hR_m_1, h_2⟩ := h_2
  have hwr := h_2
  refine jiret hF hr (by decide +kernel) ?_
  exact lMR ⟨hR_m_1, by exact hwr⟩
set_option maxHeartbeats 4000000 in
set_option maxRecDepth 100000 in
theorem c_X12_worth {l : Launch} {g : GP} (hG : GH g) {kd : Int → Nat} {ln : Int → Int} {mem : Int → Int → Int} {sz : Nat} (hS : SK kd ln) (hR : SR mem) (t lab n b x : Int) (h_t : InI t) (h_lab : InI lab) (h_n : InI n) (h_b : InI b) (h_x : InI x) (TT : Int → Int → Int) (LL : Int → Int) (hPL : PLS mem TT LL) : MT l g yX12_worth cX12_worth 6 (some .int) 5 0 0 [(2, 35), (0, t), (0, lab), (0, n), (0, b), (0, x)] kd ln mem sz (pMR 0 (fun v mem' => SR mem' ∧ ((((0 ≤ t ∧ t ≤ mem 35 16 - 1) ∧ isLb lab) → v = worV (TT t) (LL t) (envF n b x) lab ∧ WOF (thr mem 0) mem') ∧ (¬ ((0 ≤ t ∧ t ≤ mem 35 16 - 1) ∧ isLb lab) → v = 0 ∧ mem' = thr mem 1))) kd ln sz) := by
  refine MT_of hG (by decide +kernel) (Nat.le_of_ble_eq_true rfl) (fun z hF hr hn => ?_)
  have hpl0 := hPL.1
  have hpl1 := hPL.2.1
  refine jblk hF [(.aload_n 0, 1), (.iload_n 1, 1), (.iconst 0, 1), (.aload_n 0, 1)] (by decide +kernel) (pc' := 4) (lo' := [(0, (2, 35)), (1, (0, t)), (2, (0, lab)), (3, (0, n)), (4, (0, b)), (5, (0, x))]) (st' := [(2, 35), (0, 0), (0, t), (2, 35)]) rfl ?_
  refine jget hF 13 16 0 16 rfl (by decide) (by decide) rfl wd_1479 (by decide +kernel) (by exact hS.k35) ?_
  refine jblk hF [(.iconst 1, 1), (.isub, 1)] (by decide +kernel) (pc' := 9) (lo' := [(0, (2, 35)), (1, (0, t)), (2, (0, lab)), (3, (0, n)), (4, (0, b)), (5, (0, x))]) (st' := [(0, (mem 35 16) - 1), (0, 0), (0, t), (2, 35)]) rfl ?_
  refine jcallS hF (c_X12_in hG t 0 ((mem 35 16) - 1) (by omega) (by decide) (by omega)) MW_X12_in wd_1743 wd_1744 (by decide +kernel) [(2, 35)] rfl rfl (by decide) (Nat.le_of_ble_eq_true rfl) (by decide) (kB (fun h_1 => ?_) (fun h_1 => ?_))
  · refine jif_eq hF (off := 14) 26 (by decide +kernel) (by decide) (by decide) (fun h => absurd h (by decide)) (fun _ => ?_)
    refine jblk hF [(.iload_n 2, 1)] (by decide +kernel) (pc' := 16) (lo' := [(0, (2, 35)), (1, (0, t)), (2, (0, lab)), (3, (0, n)), (4, (0, b)), (5, (0, x))]) (st' := [(0, lab), (2, 35)]) rfl ?_
    refine jcallS hF (c_X12_isLabel hG lab (by omega)) MW_X12_isLabel wd_1833 wd_1834 (by decide +kernel) [(2, 35)] rfl rfl (by decide) (Nat.le_of_ble_eq_true rfl) (by decide) (kB (fun h_3 => ?_) (fun h_3 => ?_))
    · refine jif_eq hF (off := 7) 26 (by decide +kernel) (by decide) (by decide) (fun h => absurd h (by decide)) (fun _ => ?_)
      refine jblk hF [(.iconst 0, 1)] (by decide +kernel) (pc' := 23) (lo' := [(0, (2, 35)), (1, (0, t)), (2, (0, lab)), (3, (0, n)), (4, (0, b)), (5, (0, x))]) (st' := [(0, 0), (2, 35)]) rfl ?_
      refine jgoto hF (off := 4) 27 (by decide +kernel) (by decide) ?_
      refine jput hF 13 1 0 1 rfl (by decide) (by decide) rfl wd_1464 (by decide +kernel) rfl (Or.inl rfl) (by exact hS.k35) (fun h => by cases h) ?_
      refine jblk hF [(.aload_n 0, 1)] (by decide +kernel) (pc' := 31) (lo' := [(0, (2, 35)), (1, (0, t)), (2, (0, lab)), (3, (0, n)), (4, (0, b)), (5, (0, x))]) (st' := [(2, 35)]) rfl ?_
      refine jget hF 13 1 0 1 rfl (by decide) (by decide) rfl wd_1464 (by decide +kernel) (by exact hS.k35) ?_
      rw [show (set2 mem 35 1 0) 35 1 = 0 from s2_s]
      refine jblk hF [(.iconst 1, 1)] (by decide +kernel) (pc' := 35) (lo' := [(0, (2, 35)), (1, (0, t)), (2, (0, lab)), (3, (0, n)), (4, (0, b)), (5, (0, x))]) (st' := [(0, 1), (0, 0)]) rfl ?_
      refine jicmp_ne hF (off := 7) 42 (by decide +kernel) (by decide) (by decide) (by decide) (fun _ => ?_) (fun h => absurd h (by decide))
      have hct : (0 ≤ t ∧ t ≤ mem 35 16 - 1) ∧ isLb lab := ⟨by omega, by first | assumption | (exfalso; omega)⟩
      obtain ⟨hLb, hfa, hsg, h42a, h42b⟩ := hPL.2.2 t (by omega) (by omega)
      have hs9 : SG ((set2 mem 35 1 0) 41) (620 * t) (fauP (TT t) (LL t)).2.2 := hsg
      have hs8 : (set2 mem 35 1 0) 42 t = (fauP (TT t) (LL t)).2.2.length ∧ (set2 mem 35 1 0) 42 t ≤ 340 := ⟨h42a, h42b⟩
      refine jblk hF [(.aload_n 0, 1), (.iload_n 1, 1), (.iload_n 2, 1), (.iload_n 3, 1), (.iload 4, 2), (.iload 5, 2)] (by decide +kernel) (pc' := 50) (lo' := [(0, (2, 35)), (1, (0, t)), (2, (0, lab)), (3, (0, n)), (4, (0, b)), (5, (0, x))]) (st' := [(0, x), (0, b), (0, n), (0, lab), (0, t), (2, 35)]) rfl ?_
      refine jcallV hF (c_X12_worthOf hG hS (SR.s hR (Or.inr (by decide))) t lab n b x (by omega) (by omega) (by omega) (by omega) (by exact TT t) (by exact LL t) (by assumption) (by assumption) (by omega) (by exact hs9) (by exact hs8)) MW_X12_worthOf 13 (by decide) (by exact hS.k35) wd_1899 wd_1901 wd_p68 (by decide +kernel) [] rfl rfl (by decide) (Nat.le_of_ble_eq_true rfl) (by decide) (kMR (fun v_8 m_6 h_7 => ?_))
      obtain ⟨hR_m_6, h_7⟩ := h_7
      have hwr := h_7
      refine jiret hF hr (by decide +kernel) ?_
      exact lMR ⟨hR_m_6, by first | exact ⟨fun _ => hwr, fun h => absurd hct h⟩ | exact ⟨fun h => absurd h (by omega), fun _ => ⟨rfl, rfl⟩⟩⟩
    · refine jif_eq hF (off := 7) 26 (by decide +kernel) (by decide) (by decide) (fun _ => ?_) (fun h => absurd h (by decide))
      refine jblk hF [(.iconst 1, 1)] (by decide +kernel) (pc' := 27) (lo' := [(0, (2, 35)), (1, (0, t)), (2, (0, lab)), (3, (0, n)), (4, (0, b)), (5, (0, x))]) (st' := [(0, 1), (2, 35)]) rfl ?_
      refine jput hF 13 1 0 1 rfl (by decide) (by decide) rfl wd_1464 (by decide +kernel) rfl (Or.inl rfl) (by exact hS.k35) (fun h => by cases h) ?_
      refine jblk hF [(.aload_n 0, 1)] (by decide +kernel) (pc' := 31) (lo' := [(0, (2, 35)), (1, (0, t)), (2, (0, lab)), (3, (0, n)), (4, (0, b)), (5, (0, x))]) (st' := [(2, 35)]) rfl ?_
      refine jget hF 13 1 0 1 rfl (by decide) (by decide) rfl wd_1464 (by decide +kernel) (by exact hS.k35) ?_
      rw [show (set2 mem 35 1 1) 35 1 = 1 from s2_s]
      refine jblk hF [(.iconst 1, 1)] (by decide +kernel) (pc' := 35) (lo' := [(0, (2, 35)), (1, (0, t)), (2, (0, lab)), (3, (0, n)), (4, (0, b)), (5, (0, x))]) (st' := [(0, 1), (0, 1)]) rfl ?_
      refine jicmp_ne hF (off := 7) 42 (by decide +kernel) (by decide) (by decide) (by decide) (fun h => absurd h (by decide)) (fun _ => ?_)
      refine jblk hF [(.iconst 0, 1)] (by decide +kernel) (pc' := 39) (lo' := [(0, (2, 35)), (1, (0, t)), (2, (0, lab)), (3, (0, n)), (4, (0, b)), (5, (0, x))]) (st' := [(0, 0)]) rfl ?_
      refine jgoto hF (off := 14) 53 (by decide +kernel) (by decide) ?_
      refine jiret hF hr (by decide +kernel) ?_
      exact lMR ⟨(SR.s hR (Or.inr (by decide))), by first | exact ⟨fun _ => hwr, fun h => absurd hct h⟩ | exact ⟨fun h => absurd h (by omega), fun _ => ⟨rfl, rfl⟩⟩⟩
  · refine jif_eq hF (off := 14) 26 (by decide +kernel) (by decide) (by decide) (fun _ => ?_) (fun h => absurd h (by decide))
    refine jblk hF [(.iconst 1, 1)] (by decide +kernel) (pc' := 27) (lo' := [(0, (2, 35)), (1, (0, t)), (2, (0, lab)), (3, (0, n)), (4, (0, b)), (5, (0, x))]) (st' := [(0, 1), (2, 35)]) rfl ?_
    refine jput hF 13 1 0 1 rfl (by decide) (by decide) rfl wd_1464 (by decide +kernel) rfl (Or.inl rfl) (by exact hS.k35) (fun h => by cases h) ?_
    refine jblk hF [(.aload_n 0, 1)] (by decide +kernel) (pc' := 31) (lo' := [(0, (2, 35)), (1, (0, t)), (2, (0, lab)), (3, (0, n)), (4, (0, b)), (5, (0, x))]) (st' := [(2, 35)]) rfl ?_
    refine jget hF 13 1 0 1 rfl (by decide) (by decide) rfl wd_1464 (by decide +kernel) (by exact hS.k35) ?_
    rw [show (set2 mem 35 1 1) 35 1 = 1 from s2_s]
    refine jblk hF [(.iconst 1, 1)] (by decide +kernel) (pc' := 35) (lo' := [(0, (2, 35)), (1, (0, t)), (2, (0, lab)), (3, (0, n)), (4, (0, b)), (5, (0, x))]) (st' := [(0, 1), (0, 1)]) rfl ?_
    refine jicmp_ne hF (off := 7) 42 (by decide +kernel) (by decide) (by decide) (by decide) (fun h => absurd h (by decide)) (fun _ => ?_)
    refine jblk hF [(.iconst 0, 1)] (by decide +kernel) (pc' := 39) (lo' := [(0, (2, 35)), (1, (0, t)), (2, (0, lab)), (3, (0, n)), (4, (0, b)), (5, (0, x))]) (st' := [(0, 0)]) rfl ?_
    refine jgoto hF (off := 14) 53 (by decide +kernel) (by decide) ?_
    refine jiret hF hr (by decide +kernel) ?_
    exact lMR ⟨(SR.s hR (Or.inr (by decide))), by first | exact ⟨fun _ => hwr, fun h => absurd hct h⟩ | exact ⟨fun h => absurd h (by omega), fun _ => ⟨rfl, rfl⟩⟩⟩
set_option maxHeartbeats 4000000 in
set_option maxRecDepth 100000 in
theorem c_X12_page {l : Launch} {g : GP} (hG : GH g) {kd : Int → Nat} {ln : Int → Int} {mem : Int → Int → Int} {sz : Nat} (hS : SK kd ln) (hR : SR mem) (f first n t : Int) (h_f : InI f) (h_first : InI first) (h_n : InI n) (h_t : InI t) (h6 : 0 ≤ mem 35 6 ∧ mem 35 6 ≤ 10) (h33 : 0 ≤ mem 35 33 ∧ mem 35 33 ≤ 12) (TT : Int → Int → Int) (LL : Int → Int) (hPL : PLS mem TT LL) : MT l g yX12_page cX12_page 14 (some .int) 6 0 0 [(2, 35), (0, f), (0, first), (0, n), (0, t)] kd ln mem sz (pMR 0 (fun v mem' => SR mem' ∧ (((pgC1 mem f first n t ∧ pgC2 (TT t) (LL t) first n ∧ pgC3 (TT t) (LL t) first n) → v = mem 35 33 ∧ PGM mem mem' (TT t) (LL t) f first n) ∧ (¬ (pgC1 mem f first n t ∧ pgC2 (TT t) (LL t) first n ∧ pgC3 (TT t) (LL t) first n) → v = -1 ∧ PGF mem mem'))) kd ln sz) := by
  refine MT_of hG (by decide +kernel) (Nat.le_of_ble_eq_true rfl) (fun z hF hr hn => ?_)
  have hpl0 := hPL.1
  have hpl1 := hPL.2.1
  refine jblk hF [(.iload_n 1, 1), (.iconst 0, 1), (.aload_n 0, 1)] (by decide +kernel) (pc' := 3) (lo' := [(0, (2, 35)), (1, (0, f)), (2, (0, first)), (3, (0, n)), (4, (0, t))]) (st' := [(2, 35), (0, 0), (0, f)]) rfl ?_
  refine jget hF 13 6 0 6 rfl (by decide) (by decide) rfl wd_1469 (by decide +kernel) (by exact hS.k35) ?_
  refine jblk hF [(.iconst 1, 1), (.isub, 1)] (by decide +kernel) (pc' := 8) (lo' := [(0, (2, 35)), (1, (0, f)), (2, (0, first)), (3, (0, n)), (4, (0, t))]) (st' := [(0, (mem 35 6) - 1), (0, 0), (0, f)]) rfl ?_
  refine jcallS hF (c_X12_in hG f 0 ((mem 35 6) - 1) (by omega) (by decide) (by omega)) MW_X12_in wd_1743 wd_1744 (by decide +kernel) [] rfl rfl (by decide) (Nat.le_of_ble_eq_true rfl) (by decide) (kB (fun h_1 => ?_) (fun h_1 => ?_))
  · refine jif_eq hF (off := 48) 59 (by decide +kernel) (by decide) (by decide) (fun h => absurd h (by decide)) (fun _ => ?_)
    refine jblk hF [(.iload_n 2, 1), (.iconst 1, 1), (.sipush 9999, 3)] (by decide +kernel) (pc' := 19) (lo' := [(0, (2, 35)), (1, (0, f)), (2, (0, first)), (3, (0, n)), (4, (0, t))]) (st' := [(0, 9999), (0, 1), (0, first)]) rfl ?_
    refine jcallS hF (c_X12_in hG first 1 9999 (by omega) (by decide) (by decide)) MW_X12_in wd_1743 wd_1744 (by decide +kernel) [] rfl rfl (by decide) (Nat.le_of_ble_eq_true rfl) (by decide) (kB (fun h_3 => ?_) (fun h_3 => ?_))
    · refine jif_eq hF (off := 37) 59 (by decide +kernel) (by decide) (by decide) (fun h => absurd h (by decide)) (fun _ => ?_)
      refine jblk hF [(.iload_n 3, 1), (.iconst 2, 1), (.bipush 40, 2)] (by decide +kernel) (pc' := 29) (lo' := [(0, (2, 35)), (1, (0, f)), (2, (0, first)), (3, (0, n)), (4, (0, t))]) (st' := [(0, 40), (0, 2), (0, n)]) rfl ?_
      refine jcallS hF (c_X12_in hG n 2 40 (by omega) (by decide) (by decide)) MW_X12_in wd_1743 wd_1744 (by decide +kernel) [] rfl rfl (by decide) (Nat.le_of_ble_eq_true rfl) (by decide) (kB (fun h_5 => ?_) (fun h_5 => ?_))
      · refine jif_eq hF (off := 27) 59 (by decide +kernel) (by decide) (by decide) (fun h => absurd h (by decide)) (fun _ => ?_)
        refine jblk hF [(.iload 4, 2), (.iconst 0, 1), (.aload_n 0, 1)] (by decide +kernel) (pc' := 39) (lo' := [(0, (2, 35)), (1, (0, f)), (2, (0, first)), (3, (0, n)), (4, (0, t))]) (st' := [(2, 35), (0, 0), (0, t)]) rfl ?_
        refine jget hF 13 16 0 16 rfl (by decide) (by decide) rfl wd_1479 (by decide +kernel) (by exact hS.k35) ?_
        refine jblk hF [(.iconst 1, 1), (.isub, 1)] (by decide +kernel) (pc' := 44) (lo' := [(0, (2, 35)), (1, (0, f)), (2, (0, first)), (3, (0, n)), (4, (0, t))]) (st' := [(0, (mem 35 16) - 1), (0, 0), (0, t)]) rfl ?_
        refine jcallS hF (c_X12_in hG t 0 ((mem 35 16) - 1) (by omega) (by decide) (by omega)) MW_X12_in wd_1743 wd_1744 (by decide +kernel) [] rfl rfl (by decide) (Nat.le_of_ble_eq_true rfl) (by decide) (kB (fun h_7 => ?_) (fun h_7 => ?_))
        · refine jif_eq hF (off := 12) 59 (by decide +kernel) (by decide) (by decide) (fun h => absurd h (by decide)) (fun _ => ?_)
          refine jblk hF [(.aload_n 0, 1)] (by decide +kernel) (pc' := 51) (lo' := [(0, (2, 35)), (1, (0, f)), (2, (0, first)), (3, (0, n)), (4, (0, t))]) (st' := [(2, 35)]) rfl ?_
          refine jget hF 13 33 0 33 rfl (by decide) (by decide) rfl wd_1496 (by decide +kernel) (by exact hS.k35) ?_
          refine jblk hF [(.bipush 12, 2)] (by decide +kernel) (pc' := 56) (lo' := [(0, (2, 35)), (1, (0, f)), (2, (0, first)), (3, (0, n)), (4, (0, t))]) (st' := [(0, 12), (0, mem 35 33)]) rfl ?_
          refine jicmp_ne hF (off := 5) 61 (by decide +kernel) (by decide) (by omega) (by decide) (fun h_9 => ?_) (fun h_9 => ?_)
          · obtain ⟨hLb, hfa, hsg, h42a, h42b⟩ := hPL.2.2 t (by omega) (by omega)
            have hs9 : SG (mem 41) (620 * t) (fauP (TT t) (LL t)).2.2 := hsg
            have hs8 : mem 42 t = (fauP (TT t) (LL t)).2.2.length ∧ mem 42 t ≤ 340 := ⟨h42a, h42b⟩
            refine jblk hF [(.aload_n 0, 1), (.iload 4, 2), (.bipush 97, 2)] (by decide +kernel) (pc' := 66) (lo' := [(0, (2, 35)), (1, (0, f)), (2, (0, first)), (3, (0, n)), (4, (0, t))]) (st' := [(0, 97), (0, t), (2, 35)]) rfl ?_
            refine jcallV hF (c_X12_label hG hS hR t 97 (by decide) (by exact TT t) (by exact LL t) (by assumption) (by assumption) (by omega) (by exact hs9) (by exact hs8)) MW_X12_label 13 (by decide) (by exact hS.k35) wd_1921 wd_1923 wd_p70 (by decide +kernel) [] rfl rfl (by decide) (Nat.le_of_ble_eq_true rfl) (by decide) (kMR (fun v_12 m_10 h_11 => ?_))
            obtain ⟨hR_m_10, h_11⟩ := h_11
            obtain ⟨hv1, hw1⟩ := h_11
            have hf1 : WOF mem m_10 := fun a j q1 q2 q3 => (hw1 a j q1 q2 q3).trans (rfl)
            have hi1 : InI v_12 := by rw [hv1]; exact wA_in _ hLb.1 hfa
            have hs9 : SG (m_10 41) (620 * t) (fauP (TT t) (LL t)).2.2 := by rw [show m_10 41 = mem 41 from funext fun j => hf1 41 j (by decide) (by decide) (by omega)]; exact hsg
            have hs8 : m_10 42 t = (fauP (TT t) (LL t)).2.2.length ∧ m_10 42 t ≤ 340 := by rw [hf1 42 t (by decide) (by decide) (by omega)]; exact ⟨h42a, h42b⟩
            refine jblk hF [(.istore 5, 2), (.aload_n 0, 1), (.iload 4, 2), (.bipush 111, 2)] (by decide +kernel) (pc' := 76) (lo' := [(5, (0, v_12)), (0, (2, 35)), (1, (0, f)), (2, (0, first)), (3, (0, n)), (4, (0, t))]) (st' := [(0, 111), (0, t), (2, 35)]) rfl ?_
            refine jcallV hF (c_X12_label hG hS hR_m_10 t 111 (by decide) (by exact TT t) (by exact LL t) (by assumption) (by assumption) (by omega) (by exact hs9) (by exact hs8)) MW_X12_label 13 (by decide) (by exact hS.k35) wd_1921 wd_1923 wd_p70 (by decide +kernel) [] rfl rfl (by decide) (Nat.le_of_ble_eq_true rfl) (by decide) (kMR (fun v_15 m_13 h_14 => ?_))
            obtain ⟨hR_m_13, h_14⟩ := h_14
            obtain ⟨hv2, hw2⟩ := h_14
            have hf2 : WOF mem m_13 := fun a j q1 q2 q3 => (hw2 a j q1 q2 q3).trans (hf1 a j q1 q2 q3)
            have hi2 : InI v_15 := by rw [hv2]; exact wA_in _ hLb.1 hfa
            have hs9 : SG (m_13 41) (620 * t) (fauP (TT t) (LL t)).2.2 := by rw [show m_13 41 = mem 41 from funext fun j => hf2 41 j (by decide) (by decide) (by omega)]; exact hsg
            have hs8 : m_13 42 t = (fauP (TT t) (LL t)).2.2.length ∧ m_13 42 t ≤ 340 := by rw [hf2 42 t (by decide) (by decide) (by omega)]; exact ⟨h42a, h42b⟩
            refine jblk hF [(.istore 6, 2), (.aload_n 0, 1), (.iload 4, 2), (.bipush 112, 2)] (by decide +kernel) (pc' := 86) (lo' := [(6, (0, v_15)), (5, (0, v_12)), (0, (2, 35)), (1, (0, f)), (2, (0, first)), (3, (0, n)), (4, (0, t))]) (st' := [(0, 112), (0, t), (2, 35)]) rfl ?_
            refine jcallV hF (c_X12_label hG hS hR_m_13 t 112 (by decide) (by exact TT t) (by exact LL t) (by assumption) (by assumption) (by omega) (by exact hs9) (by exact hs8)) MW_X12_label 13 (by decide) (by exact hS.k35) wd_1921 wd_1923 wd_p70 (by decide +kernel) [] rfl rfl (by decide) (Nat.le_of_ble_eq_true rfl) (by decide) (kMR (fun v_18 m_16 h_17 => ?_))
            obtain ⟨hR_m_16, h_17⟩ := h_17
            obtain ⟨hv3, hw3⟩ := h_17
            have hf3 : WOF mem m_16 := fun a j q1 q2 q3 => (hw3 a j q1 q2 q3).trans (hf2 a j q1 q2 q3)
            have hi3 : InI v_18 := by rw [hv3]; exact wA_in _ hLb.1 hfa
            have hs9 : SG (m_16 41) (620 * t) (fauP (TT t) (LL t)).2.2 := by rw [show m_16 41 = mem 41 from funext fun j => hf3 41 j (by decide) (by decide) (by omega)]; exact hsg
            have hs8 : m_16 42 t = (fauP (TT t) (LL t)).2.2.length ∧ m_16 42 t ≤ 340 := by rw [hf3 42 t (by decide) (by decide) (by omega)]; exact ⟨h42a, h42b⟩
            refine jblk hF [(.istore 7, 2), (.aload_n 0, 1), (.iload 4, 2), (.bipush 99, 2)] (by decide +kernel) (pc' := 96) (lo' := [(7, (0, v_18)), (6, (0, v_15)), (5, (0, v_12)), (0, (2, 35)), (1, (0, f)), (2, (0, first)), (3, (0, n)), (4, (0, t))]) (st' := [(0, 99), (0, t), (2, 35)]) rfl ?_
            refine jcallV hF (c_X12_label hG hS hR_m_16 t 99 (by decide) (by exact TT t) (by exact LL t) (by assumption) (by assumption) (by omega) (by exact hs9) (by exact hs8)) MW_X12_label 13 (by decide) (by exact hS.k35) wd_1921 wd_1923 wd_p70 (by decide +kernel) [] rfl rfl (by decide) (Nat.le_of_ble_eq_true rfl) (by decide) (kMR (fun v_21 m_19 h_20 => ?_))
            obtain ⟨hR_m_19, h_20⟩ := h_20
            obtain ⟨hv4, hw4⟩ := h_20
            have hf4 : WOF mem m_19 := fun a j q1 q2 q3 => (hw4 a j q1 q2 q3).trans (hf3 a j q1 q2 q3)
            have hi4 : InI v_21 := by rw [hv4]; exact wA_in _ hLb.1 hfa
            have hs9 : SG (m_19 41) (620 * t) (fauP (TT t) (LL t)).2.2 := by rw [show m_19 41 = mem 41 from funext fun j => hf4 41 j (by decide) (by decide) (by omega)]; exact hsg
            have hs8 : m_19 42 t = (fauP (TT t) (LL t)).2.2.length ∧ m_19 42 t ≤ 340 := by rw [hf4 42 t (by decide) (by decide) (by omega)]; exact ⟨h42a, h42b⟩
            refine jblk hF [(.istore 8, 2), (.aload_n 0, 1), (.iload 4, 2), (.bipush 109, 2)] (by decide +kernel) (pc' := 106) (lo' := [(8, (0, v_21)), (7, (0, v_18)), (6, (0, v_15)), (5, (0, v_12)), (0, (2, 35)), (1, (0, f)), (2, (0, first)), (3, (0, n)), (4, (0, t))]) (st' := [(0, 109), (0, t), (2, 35)]) rfl ?_
            refine jcallV hF (c_X12_label hG hS hR_m_19 t 109 (by decide) (by exact TT t) (by exact LL t) (by assumption) (by assumption) (by omega) (by exact hs9) (by exact hs8)) MW_X12_label 13 (by decide) (by exact hS.k35) wd_1921 wd_1923 wd_p70 (by decide +kernel) [] rfl rfl (by decide) (Nat.le_of_ble_eq_true rfl) (by decide) (kMR (fun v_24 m_22 h_23 => ?_))
            obtain ⟨hR_m_22, h_23⟩ := h_23
            obtain ⟨hv5, hw5⟩ := h_23
            have hf5 : WOF mem m_22 := fun a j q1 q2 q3 => (hw5 a j q1 q2 q3).trans (hf4 a j q1 q2 q3)
            have hi5 : InI v_24 := by rw [hv5]; exact wA_in _ hLb.1 hfa
            have hs9 : SG (m_22 41) (620 * t) (fauP (TT t) (LL t)).2.2 := by rw [show m_22 41 = mem 41 from funext fun j => hf5 41 j (by decide) (by decide) (by omega)]; exact hsg
            have hs8 : m_22 42 t = (fauP (TT t) (LL t)).2.2.length ∧ m_22 42 t ≤ 340 := by rw [hf5 42 t (by decide) (by decide) (by omega)]; exact ⟨h42a, h42b⟩
            refine jblk hF [(.istore 9, 2), (.aload_n 0, 1), (.iload 4, 2), (.bipush 102, 2)] (by decide +kernel) (pc' := 116) (lo' := [(9, (0, v_24)), (8, (0, v_21)), (7, (0, v_18)), (6, (0, v_15)), (5, (0, v_12)), (0, (2, 35)), (1, (0, f)), (2, (0, first)), (3, (0, n)), (4, (0, t))]) (st' := [(0, 102), (0, t), (2, 35)]) rfl ?_
            refine jcallV hF (c_X12_label hG hS hR_m_22 t 102 (by decide) (by exact TT t) (by exact LL t) (by assumption) (by assumption) (by omega) (by exact hs9) (by exact hs8)) MW_X12_label 13 (by decide) (by exact hS.k35) wd_1921 wd_1923 wd_p70 (by decide +kernel) [] rfl rfl (by decide) (Nat.le_of_ble_eq_true rfl) (by decide) (kMR (fun v_27 m_25 h_26 => ?_))
            obtain ⟨hR_m_25, h_26⟩ := h_26
            obtain ⟨hv6, hw6⟩ := h_26
            have hf6 : WOF mem m_25 := fun a j q1 q2 q3 => (hw6 a j q1 q2 q3).trans (hf5 a j q1 q2 q3)
            have hi6 : InI v_27 := by rw [hv6]; exact wA_in _ hLb.1 hfa
            have hs9 : SG (m_25 41) (620 * t) (fauP (TT t) (LL t)).2.2 := by rw [show m_25 41 = mem 41 from funext fun j => hf6 41 j (by decide) (by decide) (by omega)]; exact hsg
            have hs8 : m_25 42 t = (fauP (TT t) (LL t)).2.2.length ∧ m_25 42 t ≤ 340 := by rw [hf6 42 t (by decide) (by decide) (by omega)]; exact ⟨h42a, h42b⟩
            refine jblk hF [(.istore 10, 2), (.iload 5, 2), (.iconst 1, 1), (.bipush 50, 2)] (by decide +kernel) (pc' := 126) (lo' := [(10, (0, v_27)), (9, (0, v_24)), (8, (0, v_21)), (7, (0, v_18)), (6, (0, v_15)), (5, (0, v_12)), (0, (2, 35)), (1, (0, f)), (2, (0, first)), (3, (0, n)), (4, (0, t))]) (st' := [(0, 50), (0, 1), (0, v_12)]) rfl ?_
            refine jcallS hF (c_X12_in hG v_12 1 50 (by omega) (by decide) (by decide)) MW_X12_in wd_1743 wd_1744 (by decide +kernel) [] rfl rfl (by decide) (Nat.le_of_ble_eq_true rfl) (by decide) (kB (fun h_28 => ?_) (fun h_28 => ?_))
            · refine jif_eq hF (off := 75) 204 (by decide +kernel) (by decide) (by decide) (fun h => absurd h (by decide)) (fun _ => ?_)
              refine jblk hF [(.iload 6, 2), (.iconst 1, 1), (.iconst 4, 1)] (by decide +kernel) (pc' := 136) (lo' := [(10, (0, v_27)), (9, (0, v_24)), (8, (0, v_21)), (7, (0, v_18)), (6, (0, v_15)), (5, (0, v_12)), (0, (2, 35)), (1, (0, f)), (2, (0, first)), (3, (0, n)), (4, (0, t))]) (st' := [(0, 4), (0, 1), (0, v_15)]) rfl ?_
              refine jcallS hF (c_X12_in hG v_15 1 4 (by omega) (by decide) (by decide)) MW_X12_in wd_1743 wd_1744 (by decide +kernel) [] rfl rfl (by decide) (Nat.le_of_ble_eq_true rfl) (by decide) (kB (fun h_30 => ?_) (fun h_30 => ?_))
              · refine jif_eq hF (off := 65) 204 (by decide +kernel) (by decide) (by decide) (fun h => absurd h (by decide)) (fun _ => ?_)
                refine jblk hF [(.iload 7, 2), (.iconst 0, 1), (.iconst 5, 1)] (by decide +kernel) (pc' := 146) (lo' := [(10, (0, v_27)), (9, (0, v_24)), (8, (0, v_21)), (7, (0, v_18)), (6, (0, v_15)), (5, (0, v_12)), (0, (2, 35)), (1, (0, f)), (2, (0, first)), (3, (0, n)), (4, (0, t))]) (st' := [(0, 5), (0, 0), (0, v_18)]) rfl ?_
                refine jcallS hF (c_X12_in hG v_18 0 5 (by omega) (by decide) (by decide)) MW_X12_in wd_1743 wd_1744 (by decide +kernel) [] rfl rfl (by decide) (Nat.le_of_ble_eq_true rfl) (by decide) (kB (fun h_32 => ?_) (fun h_32 => ?_))
                · refine jif_eq hF (off := 55) 204 (by decide +kernel) (by decide) (by decide) (fun h => absurd h (by decide)) (fun _ => ?_)
                  refine jblk hF [(.iload 8, 2), (.iconst 0, 1), (.bipush 6, 2), (.iload 7, 2), (.isub, 1)] (by decide +kernel) (pc' := 160) (lo' := [(10, (0, v_27)), (9, (0, v_24)), (8, (0, v_21)), (7, (0, v_18)), (6, (0, v_15)), (5, (0, v_12)), (0, (2, 35)), (1, (0, f)), (2, (0, first)), (3, (0, n)), (4, (0, t))]) (st' := [(0, 6 - v_18), (0, 0), (0, v_21)]) rfl ?_
                  refine jcallS hF (c_X12_in hG v_21 0 (6 - v_18) (by omega) (by decide) (by omega)) MW_X12_in wd_1743 wd_1744 (by decide +kernel) [] rfl rfl (by decide) (Nat.le_of_ble_eq_true rfl) (by decide) (kB (fun h_34 => ?_) (fun h_34 => ?_))
                  · refine jif_eq hF (off := 41) 204 (by decide +kernel) (by decide) (by decide) (fun h => absurd h (by decide)) (fun _ => ?_)
                    refine jblk hF [(.iload 9, 2), (.iload 6, 2), (.iconst 2, 1), (.iadd, 1), (.bipush 40, 2)] (by decide +kernel) (pc' := 174) (lo' := [(10, (0, v_27)), (9, (0, v_24)), (8, (0, v_21)), (7, (0, v_18)), (6, (0, v_15)), (5, (0, v_12)), (0, (2, 35)), (1, (0, f)), (2, (0, first)), (3, (0, n)), (4, (0, t))]) (st' := [(0, 40), (0, v_15 + 2), (0, v_24)]) rfl ?_
                    refine jcallS hF (c_X12_in hG v_24 (v_15 + 2) 40 (by omega) (by omega) (by decide)) MW_X12_in wd_1743 wd_1744 (by decide +kernel) [] rfl rfl (by decide) (Nat.le_of_ble_eq_true rfl) (by decide) (kB (fun h_36 => ?_) (fun h_36 => ?_))
                    · refine jif_eq hF (off := 27) 204 (by decide +kernel) (by decide) (by decide) (fun h => absurd h (by decide)) (fun _ => ?_)
                      refine jblk hF [(.iload 10, 2), (.iconst 0, 1), (.iconst 2, 1)] (by decide +kernel) (pc' := 184) (lo' := [(10, (0, v_27)), (9, (0, v_24)), (8, (0, v_21)), (7, (0, v_18)), (6, (0, v_15)), (5, (0, v_12)), (0, (2, 35)), (1, (0, f)), (2, (0, first)), (3, (0, n)), (4, (0, t))]) (st' := [(0, 2), (0, 0), (0, v_27)]) rfl ?_
                      refine jcallS hF (c_X12_in hG v_27 0 2 (by omega) (by decide) (by decide)) MW_X12_in wd_1743 wd_1744 (by decide +kernel) [] rfl rfl (by decide) (Nat.le_of_ble_eq_true rfl) (by decide) (kB (fun h_38 => ?_) (fun h_38 => ?_))
                      · refine jif_eq hF (off := 17) 204 (by decide +kernel) (by decide) (by decide) (fun h => absurd h (by decide)) (fun _ => ?_)
                        have hmm := mul_bd (a := n - 1) (b := v_12) (M := 39) (N := 50) (by omega) (by omega)
                        refine jblk hF [(.iload_n 2, 1), (.iload_n 3, 1), (.iconst 1, 1), (.isub, 1), (.iload 5, 2), (.imul, 1), (.iadd, 1), (.sipush 9999, 3)] (by decide +kernel) (pc' := 201) (lo' := [(10, (0, v_27)), (9, (0, v_24)), (8, (0, v_21)), (7, (0, v_18)), (6, (0, v_15)), (5, (0, v_12)), (0, (2, 35)), (1, (0, f)), (2, (0, first)), (3, (0, n)), (4, (0, t))]) (st' := [(0, 9999), (0, first + ((n - 1) * v_12))]) rfl ?_
                        refine jicmp_le hF (off := 5) 206 (by decide +kernel) (by decide) (by omega) (by decide) (fun h_40 => ?_) (fun h_40 => ?_)
                        · refine jblk hF [(.iconst 0, 1), (.istore 11, 2)] (by decide +kernel) (pc' := 209) (lo' := [(11, (0, 0)), (10, (0, v_27)), (9, (0, v_24)), (8, (0, v_21)), (7, (0, v_18)), (6, (0, v_15)), (5, (0, v_12)), (0, (2, 35)), (1, (0, f)), (2, (0, first)), (3, (0, n)), (4, (0, t))]) (st' := []) rfl ?_
                          have L_42 : ∀ (fu_43 : Nat) (la : Int) (lo : Int) (lp : Int) (lc : Int) (lm : Int) (lh : Int) (k : Int) (m3 : Int → Int → Int), (SR m3) → (0 ≤ k ∧ k ≤ n) → (la = wA (TT t) (LL t) 97 ∧ lo = wA (TT t) (LL t) 111 ∧ lp = wA (TT t) (LL t) 112 ∧ lc = wA (TT t) (LL t) 99 ∧ lm = wA (TT t) (LL t) 109 ∧ lh = wA (TT t) (LL t) 102) → (pgH first n la lo lp lc lm lh) → (PGF mem m3) → (∀ i : Int, 0 ≤ i → i < k → PGR m3 (TT t) (LL t) la lm first (mem 35 33) i ∧ (0 ≤ m3 54 (40 * mem 35 33 + i) ∧ m3 54 (40 * mem 35 33 + i) ≤ 7) ∧ (0 ≤ m3 56 (40 * mem 35 33 + i) ∧ m3 56 (40 * mem 35 33 + i) ≤ 3)) →  (n - k).toNat < fu_43 → J z g 14 0 0 (QM z g 0 0 (pMR 0 (fun v mem' => SR mem' ∧ (((pgC1 mem f first n t ∧ pgC2 (TT t) (LL t) first n ∧ pgC3 (TT t) (LL t) first n) → v = mem 35 33 ∧ PGM mem mem' (TT t) (LL t) f first n) ∧ (¬ (pgC1 mem f first n t ∧ pgC2 (TT t) (LL t) first n ∧ pgC3 (TT t) (LL t) first n) → v = -1 ∧ PGF mem mem'))) kd ln sz)) 209 [(0, (2, 35)), (1, (0, f)), (2, (0, first)), (3, (0, n)), (4, (0, t)), (5, (0, la)), (6, (0, lo)), (7, (0, lp)), (8, (0, lc)), (9, (0, lm)), (10, (0, lh)), (11, (0, k))] [] kd ln m3 sz := by
                            intro fu_43
                            induction fu_43 with
                            | zero => intro la lo lp lc lm lh k m3 _ _ _ _ _ _ hm; omega
                            | succ fu_43 ih_41 =>
                              intro la lo lp lc lm lh k m3 hR_m3 hk hll hlb hfr hrw hm
                              have e33m : m3 35 33 = mem 35 33 := hfr 35 33 (by decide) (by decide) (by omega) (by omega)
                              refine jblk hF [(.iload 11, 2), (.iload_n 3, 1)] (by decide +kernel) (pc' := 212) (lo' := [(0, (2, 35)), (1, (0, f)), (2, (0, first)), (3, (0, n)), (4, (0, t)), (5, (0, la)), (6, (0, lo)), (7, (0, lp)), (8, (0, lc)), (9, (0, lm)), (10, (0, lh)), (11, (0, k))]) (st' := [(0, n), (0, k)]) rfl ?_
                              refine jicmp_ge hF (off := 187) 399 (by decide +kernel) (by decide) (by omega) (by omega) (fun h_44 => ?_) (fun h_44 => ?_)
                              · refine jblk hF [(.aload_n 0, 1)] (by decide +kernel) (pc' := 400) (lo' := [(0, (2, 35)), (1, (0, f)), (2, (0, first)), (3, (0, n)), (4, (0, t)), (5, (0, la)), (6, (0, lo)), (7, (0, lp)), (8, (0, lc)), (9, (0, lm)), (10, (0, lh)), (11, (0, k))]) (st' := [(2, 35)]) rfl ?_
                                refine jget hF 13 20 2 20 rfl (by decide) (by decide) rfl wd_1483 (by decide +kernel) (by exact hS.k35) ?_
                                rw [SR.r20 hR_m3]
                                refine jblk hF [(.aload_n 0, 1)] (by decide +kernel) (pc' := 404) (lo' := [(0, (2, 35)), (1, (0, f)), (2, (0, first)), (3, (0, n)), (4, (0, t)), (5, (0, la)), (6, (0, lo)), (7, (0, lp)), (8, (0, lc)), (9, (0, lm)), (10, (0, lh)), (11, (0, k))]) (st' := [(2, 35), (2, 45)]) rfl ?_
                                refine jget hF 13 33 0 33 rfl (by decide) (by decide) rfl wd_1496 (by decide +kernel) (by exact hS.k35) ?_
                                refine jblk hF [(.iload_n 1, 1)] (by decide +kernel) (pc' := 408) (lo' := [(0, (2, 35)), (1, (0, f)), (2, (0, first)), (3, (0, n)), (4, (0, t)), (5, (0, la)), (6, (0, lo)), (7, (0, lp)), (8, (0, lc)), (9, (0, lm)), (10, (0, lh)), (11, (0, k))]) (st' := [(0, f), (0, m3 35 33), (2, 45)]) rfl ?_
                                refine jiast hF (by decide +kernel) (by decide) (by exact hS.k45) (by omega) (by have := hS.l45; omega) ?_
                                refine jblk hF [(.aload_n 0, 1)] (by decide +kernel) (pc' := 410) (lo' := [(0, (2, 35)), (1, (0, f)), (2, (0, first)), (3, (0, n)), (4, (0, t)), (5, (0, la)), (6, (0, lo)), (7, (0, lp)), (8, (0, lc)), (9, (0, lm)), (10, (0, lh)), (11, (0, k))]) (st' := [(2, 35)]) rfl ?_
                                refine jget hF 13 21 2 21 rfl (by decide) (by decide) rfl wd_1484 (by decide +kernel) (by exact hS.k35) ?_
                                rw [SR.r21 (SR.s hR_m3 (Or.inl (by decide)))]
                                refine jblk hF [(.aload_n 0, 1)] (by decide +kernel) (pc' := 414) (lo' := [(0, (2, 35)), (1, (0, f)), (2, (0, first)), (3, (0, n)), (4, (0, t)), (5, (0, la)), (6, (0, lo)), (7, (0, lp)), (8, (0, lc)), (9, (0, lm)), (10, (0, lh)), (11, (0, k))]) (st' := [(2, 35), (2, 46)]) rfl ?_
                                refine jget hF 13 33 0 33 rfl (by decide) (by decide) rfl wd_1496 (by decide +kernel) (by exact hS.k35) ?_
                                rw [show (set2 m3 45 (m3 35 33) f) 35 33 = m3 35 33 from (s2_a (by decide))]
                                refine jblk hF [(.iload_n 2, 1)] (by decide +kernel) (pc' := 418) (lo' := [(0, (2, 35)), (1, (0, f)), (2, (0, first)), (3, (0, n)), (4, (0, t)), (5, (0, la)), (6, (0, lo)), (7, (0, lp)), (8, (0, lc)), (9, (0, lm)), (10, (0, lh)), (11, (0, k))]) (st' := [(0, first), (0, m3 35 33), (2, 46)]) rfl ?_
                                refine jiast hF (by decide +kernel) (by decide) (by exact hS.k46) (by omega) (by have := hS.l46; omega) ?_
                                refine jblk hF [(.aload_n 0, 1)] (by decide +kernel) (pc' := 420) (lo' := [(0, (2, 35)), (1, (0, f)), (2, (0, first)), (3, (0, n)), (4, (0, t)), (5, (0, la)), (6, (0, lo)), (7, (0, lp)), (8, (0, lc)), (9, (0, lm)), (10, (0, lh)), (11, (0, k))]) (st' := [(2, 35)]) rfl ?_
                                refine jget hF 13 22 2 22 rfl (by decide) (by decide) rfl wd_1485 (by decide +kernel) (by exact hS.k35) ?_
                                rw [SR.r22 (SR.s (SR.s hR_m3 (Or.inl (by decide))) (Or.inl (by decide)))]
                                refine jblk hF [(.aload_n 0, 1)] (by decide +kernel) (pc' := 424) (lo' := [(0, (2, 35)), (1, (0, f)), (2, (0, first)), (3, (0, n)), (4, (0, t)), (5, (0, la)), (6, (0, lo)), (7, (0, lp)), (8, (0, lc)), (9, (0, lm)), (10, (0, lh)), (11, (0, k))]) (st' := [(2, 35), (2, 47)]) rfl ?_
                                refine jget hF 13 33 0 33 rfl (by decide) (by decide) rfl wd_1496 (by decide +kernel) (by exact hS.k35) ?_
                                rw [show (set2 (set2 m3 45 (m3 35 33) f) 46 (m3 35 33) first) 35 33 = m3 35 33 from ((s2_a (by decide)).trans (s2_a (by decide)))]
                                refine jblk hF [(.iload_n 3, 1)] (by decide +kernel) (pc' := 428) (lo' := [(0, (2, 35)), (1, (0, f)), (2, (0, first)), (3, (0, n)), (4, (0, t)), (5, (0, la)), (6, (0, lo)), (7, (0, lp)), (8, (0, lc)), (9, (0, lm)), (10, (0, lh)), (11, (0, k))]) (st' := [(0, n), (0, m3 35 33), (2, 47)]) rfl ?_
                                refine jiast hF (by decide +kernel) (by decide) (by exact hS.k47) (by omega) (by have := hS.l47; omega) ?_
                                refine jblk hF [(.aload_n 0, 1)] (by decide +kernel) (pc' := 430) (lo' := [(0, (2, 35)), (1, (0, f)), (2, (0, first)), (3, (0, n)), (4, (0, t)), (5, (0, la)), (6, (0, lo)), (7, (0, lp)), (8, (0, lc)), (9, (0, lm)), (10, (0, lh)), (11, (0, k))]) (st' := [(2, 35)]) rfl ?_
                                refine jget hF 13 23 2 23 rfl (by decide) (by decide) rfl wd_1486 (by decide +kernel) (by exact hS.k35) ?_
                                rw [SR.r23 (SR.s (SR.s (SR.s hR_m3 (Or.inl (by decide))) (Or.inl (by decide))) (Or.inl (by decide)))]
                                refine jblk hF [(.aload_n 0, 1)] (by decide +kernel) (pc' := 434) (lo' := [(0, (2, 35)), (1, (0, f)), (2, (0, first)), (3, (0, n)), (4, (0, t)), (5, (0, la)), (6, (0, lo)), (7, (0, lp)), (8, (0, lc)), (9, (0, lm)), (10, (0, lh)), (11, (0, k))]) (st' := [(2, 35), (2, 48)]) rfl ?_
                                refine jget hF 13 33 0 33 rfl (by decide) (by decide) rfl wd_1496 (by decide +kernel) (by exact hS.k35) ?_
                                rw [show (set2 (set2 (set2 m3 45 (m3 35 33) f) 46 (m3 35 33) first) 47 (m3 35 33) n) 35 33 = m3 35 33 from ((s2_a (by decide)).trans ((s2_a (by decide)).trans (s2_a (by decide))))]
                                refine jblk hF [(.iload 5, 2)] (by decide +kernel) (pc' := 439) (lo' := [(0, (2, 35)), (1, (0, f)), (2, (0, first)), (3, (0, n)), (4, (0, t)), (5, (0, la)), (6, (0, lo)), (7, (0, lp)), (8, (0, lc)), (9, (0, lm)), (10, (0, lh)), (11, (0, k))]) (st' := [(0, la), (0, m3 35 33), (2, 48)]) rfl ?_
                                refine jiast hF (by decide +kernel) (by decide) (by exact hS.k48) (by omega) (by have := hS.l48; omega) ?_
                                refine jblk hF [(.aload_n 0, 1)] (by decide +kernel) (pc' := 441) (lo' := [(0, (2, 35)), (1, (0, f)), (2, (0, first)), (3, (0, n)), (4, (0, t)), (5, (0, la)), (6, (0, lo)), (7, (0, lp)), (8, (0, lc)), (9, (0, lm)), (10, (0, lh)), (11, (0, k))]) (st' := [(2, 35)]) rfl ?_
                                refine jget hF 13 24 2 24 rfl (by decide) (by decide) rfl wd_1487 (by decide +kernel) (by exact hS.k35) ?_
                                rw [SR.r24 (SR.s (SR.s (SR.s (SR.s hR_m3 (Or.inl (by decide))) (Or.inl (by decide))) (Or.inl (by decide))) (Or.inl (by decide)))]
                                refine jblk hF [(.aload_n 0, 1)] (by decide +kernel) (pc' := 445) (lo' := [(0, (2, 35)), (1, (0, f)), (2, (0, first)), (3, (0, n)), (4, (0, t)), (5, (0, la)), (6, (0, lo)), (7, (0, lp)), (8, (0, lc)), (9, (0, lm)), (10, (0, lh)), (11, (0, k))]) (st' := [(2, 35), (2, 49)]) rfl ?_
                                refine jget hF 13 33 0 33 rfl (by decide) (by decide) rfl wd_1496 (by decide +kernel) (by exact hS.k35) ?_
                                rw [show (set2 (set2 (set2 (set2 m3 45 (m3 35 33) f) 46 (m3 35 33) first) 47 (m3 35 33) n) 48 (m3 35 33) la) 35 33 = m3 35 33 from ((s2_a (by decide)).trans ((s2_a (by decide)).trans ((s2_a (by decide)).trans (s2_a (by decide)))))]
                                refine jblk hF [(.iload 6, 2)] (by decide +kernel) (pc' := 450) (lo' := [(0, (2, 35)), (1, (0, f)), (2, (0, first)), (3, (0, n)), (4, (0, t)), (5, (0, la)), (6, (0, lo)), (7, (0, lp)), (8, (0, lc)), (9, (0, lm)), (10, (0, lh)), (11, (0, k))]) (st' := [(0, lo), (0, m3 35 33), (2, 49)]) rfl ?_
                                refine jiast hF (by decide +kernel) (by decide) (by exact hS.k49) (by omega) (by have := hS.l49; omega) ?_
                                refine jblk hF [(.aload_n 0, 1)] (by decide +kernel) (pc' := 452) (lo' := [(0, (2, 35)), (1, (0, f)), (2, (0, first)), (3, (0, n)), (4, (0, t)), (5, (0, la)), (6, (0, lo)), (7, (0, lp)), (8, (0, lc)), (9, (0, lm)), (10, (0, lh)), (11, (0, k))]) (st' := [(2, 35)]) rfl ?_
                                refine jget hF 13 25 2 25 rfl (by decide) (by decide) rfl wd_1488 (by decide +kernel) (by exact hS.k35) ?_
                                rw [SR.r25 (SR.s (SR.s (SR.s (SR.s (SR.s hR_m3 (Or.inl (by decide))) (Or.inl (by decide))) (Or.inl (by decide))) (Or.inl (by decide))) (Or.inl (by decide)))]
                                refine jblk hF [(.aload_n 0, 1)] (by decide +kernel) (pc' := 456) (lo' := [(0, (2, 35)), (1, (0, f)), (2, (0, first)), (3, (0, n)), (4, (0, t)), (5, (0, la)), (6, (0, lo)), (7, (0, lp)), (8, (0, lc)), (9, (0, lm)), (10, (0, lh)), (11, (0, k))]) (st' := [(2, 35), (2, 50)]) rfl ?_
                                refine jget hF 13 33 0 33 rfl (by decide) (by decide) rfl wd_1496 (by decide +kernel) (by exact hS.k35) ?_
                                rw [show (set2 (set2 (set2 (set2 (set2 m3 45 (m3 35 33) f) 46 (m3 35 33) first) 47 (m3 35 33) n) 48 (m3 35 33) la) 49 (m3 35 33) lo) 35 33 = m3 35 33 from ((s2_a (by decide)).trans ((s2_a (by decide)).trans ((s2_a (by decide)).trans ((s2_a (by decide)).trans (s2_a (by decide))))))]
                                refine jblk hF [(.iload 7, 2)] (by decide +kernel) (pc' := 461) (lo' := [(0, (2, 35)), (1, (0, f)), (2, (0, first)), (3, (0, n)), (4, (0, t)), (5, (0, la)), (6, (0, lo)), (7, (0, lp)), (8, (0, lc)), (9, (0, lm)), (10, (0, lh)), (11, (0, k))]) (st' := [(0, lp), (0, m3 35 33), (2, 50)]) rfl ?_
                                refine jiast hF (by decide +kernel) (by decide) (by exact hS.k50) (by omega) (by have := hS.l50; omega) ?_
                                refine jblk hF [(.aload_n 0, 1)] (by decide +kernel) (pc' := 463) (lo' := [(0, (2, 35)), (1, (0, f)), (2, (0, first)), (3, (0, n)), (4, (0, t)), (5, (0, la)), (6, (0, lo)), (7, (0, lp)), (8, (0, lc)), (9, (0, lm)), (10, (0, lh)), (11, (0, k))]) (st' := [(2, 35)]) rfl ?_
                                refine jget hF 13 26 2 26 rfl (by decide) (by decide) rfl wd_1489 (by decide +kernel) (by exact hS.k35) ?_
                                rw [SR.r26 (SR.s (SR.s (SR.s (SR.s (SR.s (SR.s hR_m3 (Or.inl (by decide))) (Or.inl (by decide))) (Or.inl (by decide))) (Or.inl (by decide))) (Or.inl (by decide))) (Or.inl (by decide)))]
                                refine jblk hF [(.aload_n 0, 1)] (by decide +kernel) (pc' := 467) (lo' := [(0, (2, 35)), (1, (0, f)), (2, (0, first)), (3, (0, n)), (4, (0, t)), (5, (0, la)), (6, (0, lo)), (7, (0, lp)), (8, (0, lc)), (9, (0, lm)), (10, (0, lh)), (11, (0, k))]) (st' := [(2, 35), (2, 51)]) rfl ?_
                                refine jget hF 13 33 0 33 rfl (by decide) (by decide) rfl wd_1496 (by decide +kernel) (by exact hS.k35) ?_
                                rw [show (set2 (set2 (set2 (set2 (set2 (set2 m3 45 (m3 35 33) f) 46 (m3 35 33) first) 47 (m3 35 33) n) 48 (m3 35 33) la) 49 (m3 35 33) lo) 50 (m3 35 33) lp) 35 33 = m3 35 33 from ((s2_a (by decide)).trans ((s2_a (by decide)).trans ((s2_a (by decide)).trans ((s2_a (by decide)).trans ((s2_a (by decide)).trans (s2_a (by decide)))))))]
                                refine jblk hF [(.iload 8, 2)] (by decide +kernel) (pc' := 472) (lo' := [(0, (2, 35)), (1, (0, f)), (2, (0, first)), (3, (0, n)), (4, (0, t)), (5, (0, la)), (6, (0, lo)), (7, (0, lp)), (8, (0, lc)), (9, (0, lm)), (10, (0, lh)), (11, (0, k))]) (st' := [(0, lc), (0, m3 35 33), (2, 51)]) rfl ?_
                                refine jiast hF (by decide +kernel) (by decide) (by exact hS.k51) (by omega) (by have := hS.l51; omega) ?_
                                refine jblk hF [(.aload_n 0, 1)] (by decide +kernel) (pc' := 474) (lo' := [(0, (2, 35)), (1, (0, f)), (2, (0, first)), (3, (0, n)), (4, (0, t)), (5, (0, la)), (6, (0, lo)), (7, (0, lp)), (8, (0, lc)), (9, (0, lm)), (10, (0, lh)), (11, (0, k))]) (st' := [(2, 35)]) rfl ?_
                                refine jget hF 13 27 2 27 rfl (by decide) (by decide) rfl wd_1490 (by decide +kernel) (by exact hS.k35) ?_
                                rw [SR.r27 (SR.s (SR.s (SR.s (SR.s (SR.s (SR.s (SR.s hR_m3 (Or.inl (by decide))) (Or.inl (by decide))) (Or.inl (by decide))) (Or.inl (by decide))) (Or.inl (by decide))) (Or.inl (by decide))) (Or.inl (by decide)))]
                                refine jblk hF [(.aload_n 0, 1)] (by decide +kernel) (pc' := 478) (lo' := [(0, (2, 35)), (1, (0, f)), (2, (0, first)), (3, (0, n)), (4, (0, t)), (5, (0, la)), (6, (0, lo)), (7, (0, lp)), (8, (0, lc)), (9, (0, lm)), (10, (0, lh)), (11, (0, k))]) (st' := [(2, 35), (2, 52)]) rfl ?_
                                refine jget hF 13 33 0 33 rfl (by decide) (by decide) rfl wd_1496 (by decide +kernel) (by exact hS.k35) ?_
                                rw [show (set2 (set2 (set2 (set2 (set2 (set2 (set2 m3 45 (m3 35 33) f) 46 (m3 35 33) first) 47 (m3 35 33) n) 48 (m3 35 33) la) 49 (m3 35 33) lo) 50 (m3 35 33) lp) 51 (m3 35 33) lc) 35 33 = m3 35 33 from ((s2_a (by decide)).trans ((s2_a (by decide)).trans ((s2_a (by decide)).trans ((s2_a (by decide)).trans ((s2_a (by decide)).trans ((s2_a (by decide)).trans (s2_a (by decide))))))))]
                                refine jblk hF [(.iload 9, 2)] (by decide +kernel) (pc' := 483) (lo' := [(0, (2, 35)), (1, (0, f)), (2, (0, first)), (3, (0, n)), (4, (0, t)), (5, (0, la)), (6, (0, lo)), (7, (0, lp)), (8, (0, lc)), (9, (0, lm)), (10, (0, lh)), (11, (0, k))]) (st' := [(0, lm), (0, m3 35 33), (2, 52)]) rfl ?_
                                refine jiast hF (by decide +kernel) (by decide) (by exact hS.k52) (by omega) (by have := hS.l52; omega) ?_
                                refine jblk hF [(.aload_n 0, 1)] (by decide +kernel) (pc' := 485) (lo' := [(0, (2, 35)), (1, (0, f)), (2, (0, first)), (3, (0, n)), (4, (0, t)), (5, (0, la)), (6, (0, lo)), (7, (0, lp)), (8, (0, lc)), (9, (0, lm)), (10, (0, lh)), (11, (0, k))]) (st' := [(2, 35)]) rfl ?_
                                refine jget hF 13 28 2 28 rfl (by decide) (by decide) rfl wd_1491 (by decide +kernel) (by exact hS.k35) ?_
                                rw [SR.r28 (SR.s (SR.s (SR.s (SR.s (SR.s (SR.s (SR.s (SR.s hR_m3 (Or.inl (by decide))) (Or.inl (by decide))) (Or.inl (by decide))) (Or.inl (by decide))) (Or.inl (by decide))) (Or.inl (by decide))) (Or.inl (by decide))) (Or.inl (by decide)))]
                                refine jblk hF [(.aload_n 0, 1)] (by decide +kernel) (pc' := 489) (lo' := [(0, (2, 35)), (1, (0, f)), (2, (0, first)), (3, (0, n)), (4, (0, t)), (5, (0, la)), (6, (0, lo)), (7, (0, lp)), (8, (0, lc)), (9, (0, lm)), (10, (0, lh)), (11, (0, k))]) (st' := [(2, 35), (2, 53)]) rfl ?_
                                refine jget hF 13 33 0 33 rfl (by decide) (by decide) rfl wd_1496 (by decide +kernel) (by exact hS.k35) ?_
                                rw [show (set2 (set2 (set2 (set2 (set2 (set2 (set2 (set2 m3 45 (m3 35 33) f) 46 (m3 35 33) first) 47 (m3 35 33) n) 48 (m3 35 33) la) 49 (m3 35 33) lo) 50 (m3 35 33) lp) 51 (m3 35 33) lc) 52 (m3 35 33) lm) 35 33 = m3 35 33 from ((s2_a (by decide)).trans ((s2_a (by decide)).trans ((s2_a (by decide)).trans ((s2_a (by decide)).trans ((s2_a (by decide)).trans ((s2_a (by decide)).trans ((s2_a (by decide)).trans (s2_a (by decide)))))))))]
                                refine jblk hF [(.iload 10, 2)] (by decide +kernel) (pc' := 494) (lo' := [(0, (2, 35)), (1, (0, f)), (2, (0, first)), (3, (0, n)), (4, (0, t)), (5, (0, la)), (6, (0, lo)), (7, (0, lp)), (8, (0, lc)), (9, (0, lm)), (10, (0, lh)), (11, (0, k))]) (st' := [(0, lh), (0, m3 35 33), (2, 53)]) rfl ?_
                                refine jiast hF (by decide +kernel) (by decide) (by exact hS.k53) (by omega) (by have := hS.l53; omega) ?_
                                refine jblk hF [(.aload_n 0, 1), (.dup, 1)] (by decide +kernel) (pc' := 497) (lo' := [(0, (2, 35)), (1, (0, f)), (2, (0, first)), (3, (0, n)), (4, (0, t)), (5, (0, la)), (6, (0, lo)), (7, (0, lp)), (8, (0, lc)), (9, (0, lm)), (10, (0, lh)), (11, (0, k))]) (st' := [(2, 35), (2, 35)]) rfl ?_
                                refine jget hF 13 33 0 33 rfl (by decide) (by decide) rfl wd_1496 (by decide +kernel) (by exact hS.k35) ?_
                                rw [show (set2 (set2 (set2 (set2 (set2 (set2 (set2 (set2 (set2 m3 45 (m3 35 33) f) 46 (m3 35 33) first) 47 (m3 35 33) n) 48 (m3 35 33) la) 49 (m3 35 33) lo) 50 (m3 35 33) lp) 51 (m3 35 33) lc) 52 (m3 35 33) lm) 53 (m3 35 33) lh) 35 33 = m3 35 33 from ((s2_a (by decide)).trans ((s2_a (by decide)).trans ((s2_a (by decide)).trans ((s2_a (by decide)).trans ((s2_a (by decide)).trans ((s2_a (by decide)).trans ((s2_a (by decide)).trans ((s2_a (by decide)).trans (s2_a (by decide))))))))))]
                                refine jblk hF [(.iconst 1, 1), (.iadd, 1)] (by decide +kernel) (pc' := 502) (lo' := [(0, (2, 35)), (1, (0, f)), (2, (0, first)), (3, (0, n)), (4, (0, t)), (5, (0, la)), (6, (0, lo)), (7, (0, lp)), (8, (0, lc)), (9, (0, lm)), (10, (0, lh)), (11, (0, k))]) (st' := [(0, (m3 35 33) + 1), (2, 35)]) rfl ?_
                                refine jput hF 13 33 0 33 rfl (by decide) (by decide) rfl wd_1496 (by decide +kernel) rfl (Or.inl rfl) (by exact hS.k35) (fun h => by cases h) ?_
                                refine jblk hF [(.aload_n 0, 1)] (by decide +kernel) (pc' := 506) (lo' := [(0, (2, 35)), (1, (0, f)), (2, (0, first)), (3, (0, n)), (4, (0, t)), (5, (0, la)), (6, (0, lo)), (7, (0, lp)), (8, (0, lc)), (9, (0, lm)), (10, (0, lh)), (11, (0, k))]) (st' := [(2, 35)]) rfl ?_
                                refine jget hF 13 33 0 33 rfl (by decide) (by decide) rfl wd_1496 (by decide +kernel) (by exact hS.k35) ?_
                                rw [show (set2 (set2 (set2 (set2 (set2 (set2 (set2 (set2 (set2 (set2 m3 45 (m3 35 33) f) 46 (m3 35 33) first) 47 (m3 35 33) n) 48 (m3 35 33) la) 49 (m3 35 33) lo) 50 (m3 35 33) lp) 51 (m3 35 33) lc) 52 (m3 35 33) lm) 53 (m3 35 33) lh) 35 33 ((m3 35 33) + 1)) 35 33 = (m3 35 33) + 1 from s2_s]
                                refine jblk hF [(.iconst 1, 1), (.isub, 1)] (by decide +kernel) (pc' := 511) (lo' := [(0, (2, 35)), (1, (0, f)), (2, (0, first)), (3, (0, n)), (4, (0, t)), (5, (0, la)), (6, (0, lo)), (7, (0, lp)), (8, (0, lc)), (9, (0, lm)), (10, (0, lh)), (11, (0, k))]) (st' := [(0, ((m3 35 33) + 1) - 1)]) rfl ?_
                                refine jiret hF hr (by decide +kernel) ?_
                                exact lMR ⟨(SR.s (SR.s (SR.s (SR.s (SR.s (SR.s (SR.s (SR.s (SR.s (SR.s hR_m3 (Or.inl (by decide))) (Or.inl (by decide))) (Or.inl (by decide))) (Or.inl (by decide))) (Or.inl (by decide))) (Or.inl (by decide))) (Or.inl (by decide))) (Or.inl (by decide))) (Or.inl (by decide))) (Or.inr (by decide))), by (have hnk : n = k := (by omega); refine ⟨fun _ => ⟨by omega, PGM.of e33m hfr (fun i q1 q2 => by rw [← hll.1, ← hll.2.2.2.2.1, e33m]; exact (hrw i q1 (by omega)).1) (by rw [← hll.1, ← hll.2.1, ← hll.2.2.1, ← hll.2.2.2.1, ← hll.2.2.2.2.1, ← hll.2.2.2.2.2])⟩, fun h => absurd ⟨by omega, ?_, ?_⟩ h⟩; (unfold pgC2; rw [← hll.1, ← hll.2.1, ← hll.2.2.1, ← hll.2.2.2.1, ← hll.2.2.2.2.1, ← hll.2.2.2.2.2]; exact hlb); (intro i q1 q2; have h9 := hrw i q1 (by omega); rw [← hll.1, ← hll.2.2.2.2.1, ← h9.1.1, ← h9.1.2.2.1]; exact h9.2))⟩
                              · refine jblk hF [(.bipush 40, 2), (.aload_n 0, 1)] (by decide +kernel) (pc' := 218) (lo' := [(0, (2, 35)), (1, (0, f)), (2, (0, first)), (3, (0, n)), (4, (0, t)), (5, (0, la)), (6, (0, lo)), (7, (0, lp)), (8, (0, lc)), (9, (0, lm)), (10, (0, lh)), (11, (0, k))]) (st' := [(2, 35), (0, 40)]) rfl ?_
                                refine jget hF 13 33 0 33 rfl (by decide) (by decide) rfl wd_1496 (by decide +kernel) (by exact hS.k35) ?_
                                refine jblk hF [(.imul, 1), (.iload 11, 2), (.iadd, 1), (.istore 12, 2), (.iload_n 2, 1), (.iload 11, 2), (.iload 5, 2), (.imul, 1), (.iadd, 1), (.istore 13, 2)] (by decide +kernel) (pc' := 236) (lo' := [(13, (0, first + (k * la))), (12, (0, (40 * (m3 35 33)) + k)), (0, (2, 35)), (1, (0, f)), (2, (0, first)), (3, (0, n)), (4, (0, t)), (5, (0, la)), (6, (0, lo)), (7, (0, lp)), (8, (0, lc)), (9, (0, lm)), (10, (0, lh)), (11, (0, k))]) (st' := []) rfl ?_
                                have hs9 : SG (m3 41) (620 * t) (fauP (TT t) (LL t)).2.2 := by rw [show m3 41 = mem 41 from funext fun j => hfr 41 j (by decide) (by decide) (by omega) (by omega)]; exact hsg
                                have hs8 : m3 42 t = (fauP (TT t) (LL t)).2.2.length ∧ m3 42 t ≤ 340 := by rw [show m3 42 t = mem 42 t from hfr 42 t (by decide) (by decide) (by omega) (by omega)]; exact ⟨h42a, h42b⟩
                                have hka := mul_bd (a := k) (b := la) (M := 39) (N := 50) (by omega) (by omega)
                                have hka2 := Int.mul_le_mul_of_nonneg_right (show k ≤ n - 1 by omega) (show 0 ≤ la by omega)
                                have hdm := Int.ediv_nonneg (show 0 ≤ k by omega) (show 0 ≤ lm by omega)
                                have hdm2 := Int.ediv_le_self lm (show 0 ≤ k by omega)
                                refine jblk hF [(.aload_n 0, 1)] (by decide +kernel) (pc' := 237) (lo' := [(13, (0, first + (k * la))), (12, (0, (40 * (m3 35 33)) + k)), (0, (2, 35)), (1, (0, f)), (2, (0, first)), (3, (0, n)), (4, (0, t)), (5, (0, la)), (6, (0, lo)), (7, (0, lp)), (8, (0, lc)), (9, (0, lm)), (10, (0, lh)), (11, (0, k))]) (st' := [(2, 35)]) rfl ?_
                                refine jget hF 13 29 2 29 rfl (by decide) (by decide) rfl wd_1492 (by decide +kernel) (by exact hS.k35) ?_
                                rw [SR.r29 hR_m3]
                                refine jblk hF [(.iload 12, 2), (.aload_n 0, 1), (.iload 4, 2), (.bipush 104, 2), (.iload 11, 2), (.iload 11, 2), (.iload 9, 2)] (by decide +kernel) (pc' := 253) (lo' := [(13, (0, first + (k * la))), (12, (0, (40 * (m3 35 33)) + k)), (0, (2, 35)), (1, (0, f)), (2, (0, first)), (3, (0, n)), (4, (0, t)), (5, (0, la)), (6, (0, lo)), (7, (0, lp)), (8, (0, lc)), (9, (0, lm)), (10, (0, lh)), (11, (0, k))]) (st' := [(0, lm), (0, k), (0, k), (0, 104), (0, t), (2, 35), (0, (40 * (m3 35 33)) + k), (2, 54)]) rfl ?_
                                refine jidivN hF (by decide +kernel) (by omega) (by omega) ?_
                                refine jblk hF [(.iload 13, 2)] (by decide +kernel) (pc' := 256) (lo' := [(13, (0, first + (k * la))), (12, (0, (40 * (m3 35 33)) + k)), (0, (2, 35)), (1, (0, f)), (2, (0, first)), (3, (0, n)), (4, (0, t)), (5, (0, la)), (6, (0, lo)), (7, (0, lp)), (8, (0, lc)), (9, (0, lm)), (10, (0, lh)), (11, (0, k))]) (st' := [(0, first + (k * la)), (0, k / lm), (0, k), (0, 104), (0, t), (2, 35), (0, (40 * (m3 35 33)) + k), (2, 54)]) rfl ?_
                                refine jcallV hF (c_X12_worthOf hG hS hR_m3 t 104 k (k / lm) (first + (k * la)) (by decide) (by omega) (by omega) (by omega) (by exact TT t) (by exact LL t) (by assumption) (by assumption) (by omega) (by exact hs9) (by exact hs8)) MW_X12_worthOf 13 (by decide) (by exact hS.k35) wd_1899 wd_1901 wd_p68 (by decide +kernel) [(0, (40 * (m3 35 33)) + k), (2, 54)] rfl rfl (by decide) (Nat.le_of_ble_eq_true rfl) (by decide) (kMR (fun v_47 m_45 h_46 => ?_))
                                obtain ⟨hR_m_45, h_46⟩ := h_46
                                obtain ⟨hx1, hy1⟩ := h_46
                                have hz1 : InI v_47 := by rw [hx1]; exact worV_in (envF_in (by omega) (by omega) (by omega)) hLb.1 hfa
                                have hg1 : ∀ a j : Int, a ≠ 43 → a ≠ 44 → ¬ (a = 35 ∧ j = 19) → ¬ (54 ≤ a ∧ a ≤ 58 ∧ j = (40 * m3 35 33 + k)) → m_45 a j = m3 a j := fun a j q1 q2 q3 _ => hy1 a j q1 q2 q3
                                have hk1 : ∀ a j : Int, a ≠ 43 → a ≠ 44 → ¬ (a = 35 ∧ j = 19) → ¬ (54 ≤ a ∧ a ≤ 58) → m_45 a j = mem a j := fun a j q1 q2 q3 q4 => (hg1 a j q1 q2 q3 (by omega)).trans (hfr a j q1 q2 q3 (by omega))
                                have e33 : m_45 35 33 = mem 35 33 := hk1 35 33 (by decide) (by decide) (by omega) (by omega)
                                refine jiast hF (by decide +kernel) (by decide) (by exact hS.k54) (by omega) (by have := hS.l54; omega) ?_
                                have hs9 : SG ((set2 m_45 54 ((40 * (m3 35 33)) + k) v_47) 41) (620 * t) (fauP (TT t) (LL t)).2.2 := by rw [show (set2 m_45 54 ((40 * (m3 35 33)) + k) v_47) 41 = mem 41 from funext fun j => (s2_a (by decide)).trans (hk1 41 j (by decide) (by decide) (by omega) (by omega))]; exact hsg
                                have hs8 : (set2 m_45 54 ((40 * (m3 35 33)) + k) v_47) 42 t = (fauP (TT t) (LL t)).2.2.length ∧ (set2 m_45 54 ((40 * (m3 35 33)) + k) v_47) 42 t ≤ 340 := by rw [show (set2 m_45 54 ((40 * (m3 35 33)) + k) v_47) 42 t = mem 42 t from (s2_a (by decide)).trans (hk1 42 t (by decide) (by decide) (by omega) (by omega))]; exact ⟨h42a, h42b⟩
                                refine jblk hF [(.aload_n 0, 1)] (by decide +kernel) (pc' := 261) (lo' := [(13, (0, first + (k * la))), (12, (0, (40 * (m3 35 33)) + k)), (0, (2, 35)), (1, (0, f)), (2, (0, first)), (3, (0, n)), (4, (0, t)), (5, (0, la)), (6, (0, lo)), (7, (0, lp)), (8, (0, lc)), (9, (0, lm)), (10, (0, lh)), (11, (0, k))]) (st' := [(2, 35)]) rfl ?_
                                refine jget hF 13 30 2 30 rfl (by decide) (by decide) rfl wd_1493 (by decide +kernel) (by exact hS.k35) ?_
                                rw [SR.r30 (SR.s hR_m_45 (Or.inl (by decide)))]
                                refine jblk hF [(.iload 12, 2), (.aload_n 0, 1), (.iload 4, 2), (.bipush 115, 2), (.iload 11, 2), (.iload 11, 2), (.iload 9, 2)] (by decide +kernel) (pc' := 277) (lo' := [(13, (0, first + (k * la))), (12, (0, (40 * (m3 35 33)) + k)), (0, (2, 35)), (1, (0, f)), (2, (0, first)), (3, (0, n)), (4, (0, t)), (5, (0, la)), (6, (0, lo)), (7, (0, lp)), (8, (0, lc)), (9, (0, lm)), (10, (0, lh)), (11, (0, k))]) (st' := [(0, lm), (0, k), (0, k), (0, 115), (0, t), (2, 35), (0, (40 * (m3 35 33)) + k), (2, 55)]) rfl ?_
                                refine jidivN hF (by decide +kernel) (by omega) (by omega) ?_
                                refine jblk hF [(.iload 13, 2)] (by decide +kernel) (pc' := 280) (lo' := [(13, (0, first + (k * la))), (12, (0, (40 * (m3 35 33)) + k)), (0, (2, 35)), (1, (0, f)), (2, (0, first)), (3, (0, n)), (4, (0, t)), (5, (0, la)), (6, (0, lo)), (7, (0, lp)), (8, (0, lc)), (9, (0, lm)), (10, (0, lh)), (11, (0, k))]) (st' := [(0, first + (k * la)), (0, k / lm), (0, k), (0, 115), (0, t), (2, 35), (0, (40 * (m3 35 33)) + k), (2, 55)]) rfl ?_
                                refine jcallV hF (c_X12_worthOf hG hS (SR.s hR_m_45 (Or.inl (by decide))) t 115 k (k / lm) (first + (k * la)) (by decide) (by omega) (by omega) (by omega) (by exact TT t) (by exact LL t) (by assumption) (by assumption) (by omega) (by exact hs9) (by exact hs8)) MW_X12_worthOf 13 (by decide) (by exact hS.k35) wd_1899 wd_1901 wd_p68 (by decide +kernel) [(0, (40 * (m3 35 33)) + k), (2, 55)] rfl rfl (by decide) (Nat.le_of_ble_eq_true rfl) (by decide) (kMR (fun v_50 m_48 h_49 => ?_))
                                obtain ⟨hR_m_48, h_49⟩ := h_49
                                obtain ⟨hx2, hy2⟩ := h_49
                                have hz2 : InI v_50 := by rw [hx2]; exact worV_in (envF_in (by omega) (by omega) (by omega)) hLb.1 hfa
                                have hg2 : ∀ a j : Int, a ≠ 43 → a ≠ 44 → ¬ (a = 35 ∧ j = 19) → ¬ (54 ≤ a ∧ a ≤ 58 ∧ j = (40 * m3 35 33 + k)) → m_48 a j = m3 a j := fun a j q1 q2 q3 q4 => (hy2 a j q1 q2 q3).trans ((if_neg (by omega)).trans (hg1 a j q1 q2 q3 q4))
                                have x54_2 : m_48 54 (40 * m3 35 33 + k) = _ := (hy2 54 _ (by decide) (by decide) (by omega)).trans (s2_s)
                                have hk2 : ∀ a j : Int, a ≠ 43 → a ≠ 44 → ¬ (a = 35 ∧ j = 19) → ¬ (54 ≤ a ∧ a ≤ 58) → m_48 a j = mem a j := fun a j q1 q2 q3 q4 => (hg2 a j q1 q2 q3 (by omega)).trans (hfr a j q1 q2 q3 (by omega))
                                have e33 : m_48 35 33 = mem 35 33 := hk2 35 33 (by decide) (by decide) (by omega) (by omega)
                                refine jiast hF (by decide +kernel) (by decide) (by exact hS.k55) (by omega) (by have := hS.l55; omega) ?_
                                have hs9 : SG ((set2 m_48 55 ((40 * (m3 35 33)) + k) v_50) 41) (620 * t) (fauP (TT t) (LL t)).2.2 := by rw [show (set2 m_48 55 ((40 * (m3 35 33)) + k) v_50) 41 = mem 41 from funext fun j => (s2_a (by decide)).trans (hk2 41 j (by decide) (by decide) (by omega) (by omega))]; exact hsg
                                have hs8 : (set2 m_48 55 ((40 * (m3 35 33)) + k) v_50) 42 t = (fauP (TT t) (LL t)).2.2.length ∧ (set2 m_48 55 ((40 * (m3 35 33)) + k) v_50) 42 t ≤ 340 := by rw [show (set2 m_48 55 ((40 * (m3 35 33)) + k) v_50) 42 t = mem 42 t from (s2_a (by decide)).trans (hk2 42 t (by decide) (by decide) (by omega) (by omega))]; exact ⟨h42a, h42b⟩
                                refine jblk hF [(.aload_n 0, 1)] (by decide +kernel) (pc' := 285) (lo' := [(13, (0, first + (k * la))), (12, (0, (40 * (m3 35 33)) + k)), (0, (2, 35)), (1, (0, f)), (2, (0, first)), (3, (0, n)), (4, (0, t)), (5, (0, la)), (6, (0, lo)), (7, (0, lp)), (8, (0, lc)), (9, (0, lm)), (10, (0, lh)), (11, (0, k))]) (st' := [(2, 35)]) rfl ?_
                                refine jget hF 13 31 2 31 rfl (by decide) (by decide) rfl wd_1494 (by decide +kernel) (by exact hS.k35) ?_
                                rw [SR.r31 (SR.s hR_m_48 (Or.inl (by decide)))]
                                refine jblk hF [(.iload 12, 2), (.aload_n 0, 1), (.iload 4, 2), (.bipush 107, 2), (.iload 11, 2), (.iload 11, 2), (.iload 9, 2)] (by decide +kernel) (pc' := 301) (lo' := [(13, (0, first + (k * la))), (12, (0, (40 * (m3 35 33)) + k)), (0, (2, 35)), (1, (0, f)), (2, (0, first)), (3, (0, n)), (4, (0, t)), (5, (0, la)), (6, (0, lo)), (7, (0, lp)), (8, (0, lc)), (9, (0, lm)), (10, (0, lh)), (11, (0, k))]) (st' := [(0, lm), (0, k), (0, k), (0, 107), (0, t), (2, 35), (0, (40 * (m3 35 33)) + k), (2, 56)]) rfl ?_
                                refine jidivN hF (by decide +kernel) (by omega) (by omega) ?_
                                refine jblk hF [(.iload 13, 2)] (by decide +kernel) (pc' := 304) (lo' := [(13, (0, first + (k * la))), (12, (0, (40 * (m3 35 33)) + k)), (0, (2, 35)), (1, (0, f)), (2, (0, first)), (3, (0, n)), (4, (0, t)), (5, (0, la)), (6, (0, lo)), (7, (0, lp)), (8, (0, lc)), (9, (0, lm)), (10, (0, lh)), (11, (0, k))]) (st' := [(0, first + (k * la)), (0, k / lm), (0, k), (0, 107), (0, t), (2, 35), (0, (40 * (m3 35 33)) + k), (2, 56)]) rfl ?_
                                refine jcallV hF (c_X12_worthOf hG hS (SR.s hR_m_48 (Or.inl (by decide))) t 107 k (k / lm) (first + (k * la)) (by decide) (by omega) (by omega) (by omega) (by exact TT t) (by exact LL t) (by assumption) (by assumption) (by omega) (by exact hs9) (by exact hs8)) MW_X12_worthOf 13 (by decide) (by exact hS.k35) wd_1899 wd_1901 wd_p68 (by decide +kernel) [(0, (40 * (m3 35 33)) + k), (2, 56)] rfl rfl (by decide) (Nat.le_of_ble_eq_true rfl) (by decide) (kMR (fun v_53 m_51 h_52 => ?_))
                                obtain ⟨hR_m_51, h_52⟩ := h_52
                                obtain ⟨hx3, hy3⟩ := h_52
                                have hz3 : InI v_53 := by rw [hx3]; exact worV_in (envF_in (by omega) (by omega) (by omega)) hLb.1 hfa
                                have hg3 : ∀ a j : Int, a ≠ 43 → a ≠ 44 → ¬ (a = 35 ∧ j = 19) → ¬ (54 ≤ a ∧ a ≤ 58 ∧ j = (40 * m3 35 33 + k)) → m_51 a j = m3 a j := fun a j q1 q2 q3 q4 => (hy3 a j q1 q2 q3).trans ((if_neg (by omega)).trans (hg2 a j q1 q2 q3 q4))
                                have x54_3 : m_51 54 (40 * m3 35 33 + k) = _ := (hy3 54 _ (by decide) (by decide) (by omega)).trans ((s2_a (by decide)).trans x54_2)
                                have x55_3 : m_51 55 (40 * m3 35 33 + k) = _ := (hy3 55 _ (by decide) (by decide) (by omega)).trans (s2_s)
                                have hk3 : ∀ a j : Int, a ≠ 43 → a ≠ 44 → ¬ (a = 35 ∧ j = 19) → ¬ (54 ≤ a ∧ a ≤ 58) → m_51 a j = mem a j := fun a j q1 q2 q3 q4 => (hg3 a j q1 q2 q3 (by omega)).trans (hfr a j q1 q2 q3 (by omega))
                                have e33 : m_51 35 33 = mem 35 33 := hk3 35 33 (by decide) (by decide) (by omega) (by omega)
                                refine jiast hF (by decide +kernel) (by decide) (by exact hS.k56) (by omega) (by have := hS.l56; omega) ?_
                                have hs9 : SG ((set2 m_51 56 ((40 * (m3 35 33)) + k) v_53) 41) (620 * t) (fauP (TT t) (LL t)).2.2 := by rw [show (set2 m_51 56 ((40 * (m3 35 33)) + k) v_53) 41 = mem 41 from funext fun j => (s2_a (by decide)).trans (hk3 41 j (by decide) (by decide) (by omega) (by omega))]; exact hsg
                                have hs8 : (set2 m_51 56 ((40 * (m3 35 33)) + k) v_53) 42 t = (fauP (TT t) (LL t)).2.2.length ∧ (set2 m_51 56 ((40 * (m3 35 33)) + k) v_53) 42 t ≤ 340 := by rw [show (set2 m_51 56 ((40 * (m3 35 33)) + k) v_53) 42 t = mem 42 t from (s2_a (by decide)).trans (hk3 42 t (by decide) (by decide) (by omega) (by omega))]; exact ⟨h42a, h42b⟩
                                refine jblk hF [(.aload_n 0, 1)] (by decide +kernel) (pc' := 309) (lo' := [(13, (0, first + (k * la))), (12, (0, (40 * (m3 35 33)) + k)), (0, (2, 35)), (1, (0, f)), (2, (0, first)), (3, (0, n)), (4, (0, t)), (5, (0, la)), (6, (0, lo)), (7, (0, lp)), (8, (0, lc)), (9, (0, lm)), (10, (0, lh)), (11, (0, k))]) (st' := [(2, 35)]) rfl ?_
                                refine jget hF 13 32 2 32 rfl (by decide) (by decide) rfl wd_1495 (by decide +kernel) (by exact hS.k35) ?_
                                rw [SR.r32 (SR.s hR_m_51 (Or.inl (by decide)))]
                                refine jblk hF [(.iload 12, 2), (.iconst 0, 1), (.aload_n 0, 1), (.iload 4, 2), (.bipush 116, 2), (.iload 11, 2), (.iload 11, 2), (.iload 9, 2)] (by decide +kernel) (pc' := 326) (lo' := [(13, (0, first + (k * la))), (12, (0, (40 * (m3 35 33)) + k)), (0, (2, 35)), (1, (0, f)), (2, (0, first)), (3, (0, n)), (4, (0, t)), (5, (0, la)), (6, (0, lo)), (7, (0, lp)), (8, (0, lc)), (9, (0, lm)), (10, (0, lh)), (11, (0, k))]) (st' := [(0, lm), (0, k), (0, k), (0, 116), (0, t), (2, 35), (0, 0), (0, (40 * (m3 35 33)) + k), (2, 57)]) rfl ?_
                                refine jidivN hF (by decide +kernel) (by omega) (by omega) ?_
                                refine jblk hF [(.iload 13, 2)] (by decide +kernel) (pc' := 329) (lo' := [(13, (0, first + (k * la))), (12, (0, (40 * (m3 35 33)) + k)), (0, (2, 35)), (1, (0, f)), (2, (0, first)), (3, (0, n)), (4, (0, t)), (5, (0, la)), (6, (0, lo)), (7, (0, lp)), (8, (0, lc)), (9, (0, lm)), (10, (0, lh)), (11, (0, k))]) (st' := [(0, first + (k * la)), (0, k / lm), (0, k), (0, 116), (0, t), (2, 35), (0, 0), (0, (40 * (m3 35 33)) + k), (2, 57)]) rfl ?_
                                refine jcallV hF (c_X12_worthOf hG hS (SR.s hR_m_51 (Or.inl (by decide))) t 116 k (k / lm) (first + (k * la)) (by decide) (by omega) (by omega) (by omega) (by exact TT t) (by exact LL t) (by assumption) (by assumption) (by omega) (by exact hs9) (by exact hs8)) MW_X12_worthOf 13 (by decide) (by exact hS.k35) wd_1899 wd_1901 wd_p68 (by decide +kernel) [(0, 0), (0, (40 * (m3 35 33)) + k), (2, 57)] rfl rfl (by decide) (Nat.le_of_ble_eq_true rfl) (by decide) (kMR (fun v_56 m_54 h_55 => ?_))
                                obtain ⟨hR_m_54, h_55⟩ := h_55
                                obtain ⟨hx4, hy4⟩ := h_55
                                have hz4 : InI v_56 := by rw [hx4]; exact worV_in (envF_in (by omega) (by omega) (by omega)) hLb.1 hfa
                                have hg4 : ∀ a j : Int, a ≠ 43 → a ≠ 44 → ¬ (a = 35 ∧ j = 19) → ¬ (54 ≤ a ∧ a ≤ 58 ∧ j = (40 * m3 35 33 + k)) → m_54 a j = m3 a j := fun a j q1 q2 q3 q4 => (hy4 a j q1 q2 q3).trans ((if_neg (by omega)).trans (hg3 a j q1 q2 q3 q4))
                                have x54_4 : m_54 54 (40 * m3 35 33 + k) = _ := (hy4 54 _ (by decide) (by decide) (by omega)).trans ((s2_a (by decide)).trans x54_3)
                                have x55_4 : m_54 55 (40 * m3 35 33 + k) = _ := (hy4 55 _ (by decide) (by decide) (by omega)).trans ((s2_a (by decide)).trans x55_3)
                                have x56_4 : m_54 56 (40 * m3 35 33 + k) = _ := (hy4 56 _ (by decide) (by decide) (by omega)).trans (s2_s)
                                have hk4 : ∀ a j : Int, a ≠ 43 → a ≠ 44 → ¬ (a = 35 ∧ j = 19) → ¬ (54 ≤ a ∧ a ≤ 58) → m_54 a j = mem a j := fun a j q1 q2 q3 q4 => (hg4 a j q1 q2 q3 (by omega)).trans (hfr a j q1 q2 q3 (by omega))
                                have e33 : m_54 35 33 = mem 35 33 := hk4 35 33 (by decide) (by decide) (by omega) (by omega)
                                refine jcallS hF (c_J9_max_7cf53 hG 0 v_56 (by decide) (by omega)) MW_J9_max_7cf53 wd_1925 wd_145 (by decide +kernel) [(0, (40 * (m3 35 33)) + k), (2, 57)] rfl rfl (by decide) (Nat.le_of_ble_eq_true rfl) (by decide) (kV ?_)
                                refine jiast hF (by decide +kernel) (by decide) (by exact hS.k57) (by omega) (by have := hS.l57; omega) ?_
                                refine jblk hF [(.aload_n 0, 1)] (by decide +kernel) (pc' := 337) (lo' := [(13, (0, first + (k * la))), (12, (0, (40 * (m3 35 33)) + k)), (0, (2, 35)), (1, (0, f)), (2, (0, first)), (3, (0, n)), (4, (0, t)), (5, (0, la)), (6, (0, lo)), (7, (0, lp)), (8, (0, lc)), (9, (0, lm)), (10, (0, lh)), (11, (0, k))]) (st' := [(2, 35)]) rfl ?_
                                refine jget hF 13 29 2 29 rfl (by decide) (by decide) rfl wd_1492 (by decide +kernel) (by exact hS.k35) ?_
                                rw [SR.r29 (SR.s hR_m_54 (Or.inl (by decide)))]
                                refine jblk hF [(.iload 12, 2)] (by decide +kernel) (pc' := 342) (lo' := [(13, (0, first + (k * la))), (12, (0, (40 * (m3 35 33)) + k)), (0, (2, 35)), (1, (0, f)), (2, (0, first)), (3, (0, n)), (4, (0, t)), (5, (0, la)), (6, (0, lo)), (7, (0, lp)), (8, (0, lc)), (9, (0, lm)), (10, (0, lh)), (11, (0, k))]) (st' := [(0, (40 * (m3 35 33)) + k), (2, 54)]) rfl ?_
                                refine jiald hF (by decide +kernel) (by exact hS.k54) (by omega) (by have := hS.l54; omega) ?_
                                rw [show (set2 m_54 57 ((40 * (m3 35 33)) + k) (if 0 < v_56 then v_56 else 0)) 54 ((40 * (m3 35 33)) + k) = m_54 54 ((40 * (m3 35 33)) + k) from (s2_a (by decide))]
                                refine jblk hF [(.iconst 0, 1), (.bipush 7, 2)] (by decide +kernel) (pc' := 346) (lo' := [(13, (0, first + (k * la))), (12, (0, (40 * (m3 35 33)) + k)), (0, (2, 35)), (1, (0, f)), (2, (0, first)), (3, (0, n)), (4, (0, t)), (5, (0, la)), (6, (0, lo)), (7, (0, lp)), (8, (0, lc)), (9, (0, lm)), (10, (0, lh)), (11, (0, k))]) (st' := [(0, 7), (0, 0), (0, m_54 54 ((40 * (m3 35 33)) + k))]) rfl ?_
                                refine jcallS hF (c_X12_in hG (m_54 54 ((40 * (m3 35 33)) + k)) 0 7 (by omega) (by decide) (by decide)) MW_X12_in wd_1743 wd_1744 (by decide +kernel) [] rfl rfl (by decide) (Nat.le_of_ble_eq_true rfl) (by decide) (kB (fun h_57 => ?_) (fun h_57 => ?_))
                                · refine jif_eq hF (off := 18) 367 (by decide +kernel) (by decide) (by decide) (fun h => absurd h (by decide)) (fun _ => ?_)
                                  refine jblk hF [(.aload_n 0, 1)] (by decide +kernel) (pc' := 353) (lo' := [(13, (0, first + (k * la))), (12, (0, (40 * (m3 35 33)) + k)), (0, (2, 35)), (1, (0, f)), (2, (0, first)), (3, (0, n)), (4, (0, t)), (5, (0, la)), (6, (0, lo)), (7, (0, lp)), (8, (0, lc)), (9, (0, lm)), (10, (0, lh)), (11, (0, k))]) (st' := [(2, 35)]) rfl ?_
                                  refine jget hF 13 31 2 31 rfl (by decide) (by decide) rfl wd_1494 (by decide +kernel) (by exact hS.k35) ?_
                                  rw [SR.r31 (SR.s hR_m_54 (Or.inl (by decide)))]
                                  refine jblk hF [(.iload 12, 2)] (by decide +kernel) (pc' := 358) (lo' := [(13, (0, first + (k * la))), (12, (0, (40 * (m3 35 33)) + k)), (0, (2, 35)), (1, (0, f)), (2, (0, first)), (3, (0, n)), (4, (0, t)), (5, (0, la)), (6, (0, lo)), (7, (0, lp)), (8, (0, lc)), (9, (0, lm)), (10, (0, lh)), (11, (0, k))]) (st' := [(0, (40 * (m3 35 33)) + k), (2, 56)]) rfl ?_
                                  refine jiald hF (by decide +kernel) (by exact hS.k56) (by omega) (by have := hS.l56; omega) ?_
                                  rw [show (set2 m_54 57 ((40 * (m3 35 33)) + k) (if 0 < v_56 then v_56 else 0)) 56 ((40 * (m3 35 33)) + k) = m_54 56 ((40 * (m3 35 33)) + k) from (s2_a (by decide))]
                                  refine jblk hF [(.iconst 0, 1), (.iconst 3, 1)] (by decide +kernel) (pc' := 361) (lo' := [(13, (0, first + (k * la))), (12, (0, (40 * (m3 35 33)) + k)), (0, (2, 35)), (1, (0, f)), (2, (0, first)), (3, (0, n)), (4, (0, t)), (5, (0, la)), (6, (0, lo)), (7, (0, lp)), (8, (0, lc)), (9, (0, lm)), (10, (0, lh)), (11, (0, k))]) (st' := [(0, 3), (0, 0), (0, m_54 56 ((40 * (m3 35 33)) + k))]) rfl ?_
                                  refine jcallS hF (c_X12_in hG (m_54 56 ((40 * (m3 35 33)) + k)) 0 3 (by omega) (by decide) (by decide)) MW_X12_in wd_1743 wd_1744 (by decide +kernel) [] rfl rfl (by decide) (Nat.le_of_ble_eq_true rfl) (by decide) (kB (fun h_59 => ?_) (fun h_59 => ?_))
                                  · refine jif_ne hF (off := 5) 369 (by decide +kernel) (by decide) (by decide) (fun _ => ?_) (fun h => absurd h (by decide))
                                    have hs9 : SG ((set2 m_54 57 ((40 * (m3 35 33)) + k) (if 0 < v_56 then v_56 else 0)) 41) (620 * t) (fauP (TT t) (LL t)).2.2 := by rw [show (set2 m_54 57 ((40 * (m3 35 33)) + k) (if 0 < v_56 then v_56 else 0)) 41 = mem 41 from funext fun j => (s2_a (by decide)).trans (hk4 41 j (by decide) (by decide) (by omega) (by omega))]; exact hsg
                                    have hs8 : (set2 m_54 57 ((40 * (m3 35 33)) + k) (if 0 < v_56 then v_56 else 0)) 42 t = (fauP (TT t) (LL t)).2.2.length ∧ (set2 m_54 57 ((40 * (m3 35 33)) + k) (if 0 < v_56 then v_56 else 0)) 42 t ≤ 340 := by rw [show (set2 m_54 57 ((40 * (m3 35 33)) + k) (if 0 < v_56 then v_56 else 0)) 42 t = mem 42 t from (s2_a (by decide)).trans (hk4 42 t (by decide) (by decide) (by omega) (by omega))]; exact ⟨h42a, h42b⟩
                                    refine jblk hF [(.aload_n 0, 1)] (by decide +kernel) (pc' := 370) (lo' := [(13, (0, first + (k * la))), (12, (0, (40 * (m3 35 33)) + k)), (0, (2, 35)), (1, (0, f)), (2, (0, first)), (3, (0, n)), (4, (0, t)), (5, (0, la)), (6, (0, lo)), (7, (0, lp)), (8, (0, lc)), (9, (0, lm)), (10, (0, lh)), (11, (0, k))]) (st' := [(2, 35)]) rfl ?_
                                    refine jget hF 13 34 2 34 rfl (by decide) (by decide) rfl wd_1497 (by decide +kernel) (by exact hS.k35) ?_
                                    rw [SR.r34 (SR.s hR_m_54 (Or.inl (by decide)))]
                                    refine jblk hF [(.iload 12, 2), (.aload_n 0, 1), (.iload 4, 2), (.bipush 116, 2), (.iload 11, 2), (.iload 11, 2), (.iload 9, 2)] (by decide +kernel) (pc' := 386) (lo' := [(13, (0, first + (k * la))), (12, (0, (40 * (m3 35 33)) + k)), (0, (2, 35)), (1, (0, f)), (2, (0, first)), (3, (0, n)), (4, (0, t)), (5, (0, la)), (6, (0, lo)), (7, (0, lp)), (8, (0, lc)), (9, (0, lm)), (10, (0, lh)), (11, (0, k))]) (st' := [(0, lm), (0, k), (0, k), (0, 116), (0, t), (2, 35), (0, (40 * (m3 35 33)) + k), (2, 58)]) rfl ?_
                                    refine jidivN hF (by decide +kernel) (by omega) (by omega) ?_
                                    refine jblk hF [(.iload 13, 2)] (by decide +kernel) (pc' := 389) (lo' := [(13, (0, first + (k * la))), (12, (0, (40 * (m3 35 33)) + k)), (0, (2, 35)), (1, (0, f)), (2, (0, first)), (3, (0, n)), (4, (0, t)), (5, (0, la)), (6, (0, lo)), (7, (0, lp)), (8, (0, lc)), (9, (0, lm)), (10, (0, lh)), (11, (0, k))]) (st' := [(0, first + (k * la)), (0, k / lm), (0, k), (0, 116), (0, t), (2, 35), (0, (40 * (m3 35 33)) + k), (2, 58)]) rfl ?_
                                    refine jcallV hF (c_X12_worthOf hG hS (SR.s hR_m_54 (Or.inl (by decide))) t 116 k (k / lm) (first + (k * la)) (by decide) (by omega) (by omega) (by omega) (by exact TT t) (by exact LL t) (by assumption) (by assumption) (by omega) (by exact hs9) (by exact hs8)) MW_X12_worthOf 13 (by decide) (by exact hS.k35) wd_1899 wd_1901 wd_p68 (by decide +kernel) [(0, (40 * (m3 35 33)) + k), (2, 58)] rfl rfl (by decide) (Nat.le_of_ble_eq_true rfl) (by decide) (kMR (fun v_63 m_61 h_62 => ?_))
                                    obtain ⟨hR_m_61, h_62⟩ := h_62
                                    obtain ⟨hx5, hy5⟩ := h_62
                                    have hz5 : InI v_63 := by rw [hx5]; exact worV_in (envF_in (by omega) (by omega) (by omega)) hLb.1 hfa
                                    have hg5 : ∀ a j : Int, a ≠ 43 → a ≠ 44 → ¬ (a = 35 ∧ j = 19) → ¬ (54 ≤ a ∧ a ≤ 58 ∧ j = (40 * m3 35 33 + k)) → m_61 a j = m3 a j := fun a j q1 q2 q3 q4 => (hy5 a j q1 q2 q3).trans ((if_neg (by omega)).trans (hg4 a j q1 q2 q3 q4))
                                    have x54_5 : m_61 54 (40 * m3 35 33 + k) = _ := (hy5 54 _ (by decide) (by decide) (by omega)).trans ((s2_a (by decide)).trans x54_4)
                                    have x55_5 : m_61 55 (40 * m3 35 33 + k) = _ := (hy5 55 _ (by decide) (by decide) (by omega)).trans ((s2_a (by decide)).trans x55_4)
                                    have x56_5 : m_61 56 (40 * m3 35 33 + k) = _ := (hy5 56 _ (by decide) (by decide) (by omega)).trans ((s2_a (by decide)).trans x56_4)
                                    have x57_5 : m_61 57 (40 * m3 35 33 + k) = _ := (hy5 57 _ (by decide) (by decide) (by omega)).trans (s2_s)
                                    have hk5 : ∀ a j : Int, a ≠ 43 → a ≠ 44 → ¬ (a = 35 ∧ j = 19) → ¬ (54 ≤ a ∧ a ≤ 58) → m_61 a j = mem a j := fun a j q1 q2 q3 q4 => (hg5 a j q1 q2 q3 (by omega)).trans (hfr a j q1 q2 q3 (by omega))
                                    have e33 : m_61 35 33 = mem 35 33 := hk5 35 33 (by decide) (by decide) (by omega) (by omega)
                                    refine jiast hF (by decide +kernel) (by decide) (by exact hS.k58) (by omega) (by have := hS.l58; omega) ?_
                                    have hGG : ∀ a j : Int, a ≠ 43 → a ≠ 44 → ¬ (a = 35 ∧ j = 19) → ¬ (54 ≤ a ∧ a ≤ 58 ∧ j = (40 * m3 35 33 + k)) → (set2 m_61 58 ((40 * (m3 35 33)) + k) v_63) a j = m3 a j := fun a j q1 q2 q3 q4 => (if_neg (by omega)).trans (hg5 a j q1 q2 q3 q4)
                                    have hRR : PGR (set2 m_61 58 ((40 * (m3 35 33)) + k) v_63) (TT t) (LL t) la lm first (m3 35 33) k := ⟨(s2_a (by decide)).trans (x54_5.trans hx1), (s2_a (by decide)).trans (x55_5.trans hx2), (s2_a (by decide)).trans (x56_5.trans hx3), (s2_a (by decide)).trans (x57_5.trans (by rw [hx4]; rfl)), s2_s.trans hx5⟩
                                    have hB4 : 0 ≤ (set2 m_61 58 ((40 * (m3 35 33)) + k) v_63) 54 (40 * m3 35 33 + k) ∧ (set2 m_61 58 ((40 * (m3 35 33)) + k) v_63) 54 (40 * m3 35 33 + k) ≤ 7 := by rw [show (set2 m_61 58 ((40 * (m3 35 33)) + k) v_63) 54 (40 * m3 35 33 + k) = _ from (s2_a (by decide)).trans x54_5]; omega
                                    have hB6 : 0 ≤ (set2 m_61 58 ((40 * (m3 35 33)) + k) v_63) 56 (40 * m3 35 33 + k) ∧ (set2 m_61 58 ((40 * (m3 35 33)) + k) v_63) 56 (40 * m3 35 33 + k) ≤ 3 := by rw [show (set2 m_61 58 ((40 * (m3 35 33)) + k) v_63) 56 (40 * m3 35 33 + k) = _ from (s2_a (by decide)).trans x56_5]; omega
                                    refine jblk hF [(.iinc 11 1, 3)] (by decide +kernel) (pc' := 396) (lo' := [(11, (0, k + 1)), (13, (0, first + (k * la))), (12, (0, (40 * (m3 35 33)) + k)), (0, (2, 35)), (1, (0, f)), (2, (0, first)), (3, (0, n)), (4, (0, t)), (5, (0, la)), (6, (0, lo)), (7, (0, lp)), (8, (0, lc)), (9, (0, lm)), (10, (0, lh))]) (st' := []) rfl ?_
                                    refine jgoto hF (off := (-187)) 209 (by decide +kernel) (by decide) ?_
                                    refine jsub [3, 4, 5, 6, 7, 8, 9, 10, 11, 12, 13, 0] rfl ?_
                                    refine ih_41 la lo lp lc lm lh (k + 1) (set2 m_61 58 ((40 * (m3 35 33)) + k) v_63) ?_ ?_ ?_ ?_ ?_ ?_ ?_
                                    · exact (SR.s hR_m_61 (Or.inl (by decide)))
                                    · omega
                                    · exact hll
                                    · exact hlb
                                    · exact fun a j q1 q2 q3 q4 => (hGG a j q1 q2 q3 (by omega)).trans (hfr a j q1 q2 q3 q4)
                                    · (intro i q1 q2; by_cases e : i = k; (rw [e, ← e33m]; exact ⟨hRR, hB4, hB6⟩); (have h9 := hrw i q1 (by omega); have g9 : ∀ a : Int, 54 ≤ a → a ≤ 58 → _ = m3 a (40 * mem 35 33 + i) := fun a p1 p2 => hGG a (40 * mem 35 33 + i) (by omega) (by omega) (by omega) (by omega); rw [g9 54 (by decide) (by decide), g9 56 (by decide) (by decide)]; unfold PGR; rw [g9 54 (by decide) (by decide), g9 55 (by decide) (by decide), g9 56 (by decide) (by decide), g9 57 (by decide) (by decide), g9 58 (by decide) (by decide)]; exact h9))
                                    · omega
                                  · refine jif_ne hF (off := 5) 369 (by decide +kernel) (by decide) (by decide) (fun h => absurd h (by decide)) (fun _ => ?_)
                                    refine jblk hF [(.iconst (-1), 1)] (by decide +kernel) (pc' := 368) (lo' := [(13, (0, first + (k * la))), (12, (0, (40 * (m3 35 33)) + k)), (0, (2, 35)), (1, (0, f)), (2, (0, first)), (3, (0, n)), (4, (0, t)), (5, (0, la)), (6, (0, lo)), (7, (0, lp)), (8, (0, lc)), (9, (0, lm)), (10, (0, lh)), (11, (0, k))]) (st' := [(0, (-1))]) rfl ?_
                                    refine jiret hF hr (by decide +kernel) ?_
                                    exact lMR ⟨(SR.s hR_m_54 (Or.inl (by decide))), by exact ⟨fun h => absurd (h.2.2 k (by omega) (by omega)) (by rw [← hll.1, ← hll.2.2.2.2.1, show wB (TT t) (LL t) la lm first 104 k = _ from (x54_4.trans hx1).symm, show wB (TT t) (LL t) la lm first 107 k = _ from hx3.symm]; omega), fun _ => ⟨rfl, fun a j q1 q2 q3 q4 => (if_neg (by omega)).trans ((hg4 a j q1 q2 q3 (by omega)).trans (hfr a j q1 q2 q3 q4))⟩⟩⟩
                                · refine jif_eq hF (off := 18) 367 (by decide +kernel) (by decide) (by decide) (fun _ => ?_) (fun h => absurd h (by decide))
                                  refine jblk hF [(.iconst (-1), 1)] (by decide +kernel) (pc' := 368) (lo' := [(13, (0, first + (k * la))), (12, (0, (40 * (m3 35 33)) + k)), (0, (2, 35)), (1, (0, f)), (2, (0, first)), (3, (0, n)), (4, (0, t)), (5, (0, la)), (6, (0, lo)), (7, (0, lp)), (8, (0, lc)), (9, (0, lm)), (10, (0, lh)), (11, (0, k))]) (st' := [(0, (-1))]) rfl ?_
                                  refine jiret hF hr (by decide +kernel) ?_
                                  exact lMR ⟨(SR.s hR_m_54 (Or.inl (by decide))), by exact ⟨fun h => absurd (h.2.2 k (by omega) (by omega)) (by rw [← hll.1, ← hll.2.2.2.2.1, show wB (TT t) (LL t) la lm first 104 k = _ from (x54_4.trans hx1).symm, show wB (TT t) (LL t) la lm first 107 k = _ from hx3.symm]; omega), fun _ => ⟨rfl, fun a j q1 q2 q3 q4 => (if_neg (by omega)).trans ((hg4 a j q1 q2 q3 (by omega)).trans (hfr a j q1 q2 q3 q4))⟩⟩⟩
                          refine jsub [7, 8, 9, 10, 11, 6, 5, 4, 3, 2, 1, 0] rfl ?_
                          refine L_42 _ v_12 v_15 v_18 v_21 v_24 v_27 0 m_25 ?_ ?_ ?_ ?_ ?_ ?_ (Nat.lt_succ_self _)
                          · exact hR_m_25
                          · omega
                          · exact ⟨hv1, hv2, hv3, hv4, hv5, hv6⟩
                          · exact ⟨by omega, by omega, by omega, by omega, by omega, by omega, by omega⟩
                          · exact fun a j q1 q2 q3 _ => hf6 a j q1 q2 q3
                          · intro i q1 q2; omega
                        · refine jblk hF [(.iconst (-1), 1)] (by decide +kernel) (pc' := 205) (lo' := [(10, (0, v_27)), (9, (0, v_24)), (8, (0, v_21)), (7, (0, v_18)), (6, (0, v_15)), (5, (0, v_12)), (0, (2, 35)), (1, (0, f)), (2, (0, first)), (3, (0, n)), (4, (0, t))]) (st' := [(0, (-1))]) rfl ?_
                          refine jiret hF hr (by decide +kernel) ?_
                          exact lMR ⟨hR_m_25, by exact ⟨fun h => absurd h.2.1 (by unfold pgC2; rw [← hv1, ← hv2, ← hv3, ← hv4, ← hv5, ← hv6]; omega), fun _ => ⟨rfl, fun a j q1 q2 q3 _ => hf6 a j q1 q2 q3⟩⟩⟩
                      · refine jif_eq hF (off := 17) 204 (by decide +kernel) (by decide) (by decide) (fun _ => ?_) (fun h => absurd h (by decide))
                        refine jblk hF [(.iconst (-1), 1)] (by decide +kernel) (pc' := 205) (lo' := [(10, (0, v_27)), (9, (0, v_24)), (8, (0, v_21)), (7, (0, v_18)), (6, (0, v_15)), (5, (0, v_12)), (0, (2, 35)), (1, (0, f)), (2, (0, first)), (3, (0, n)), (4, (0, t))]) (st' := [(0, (-1))]) rfl ?_
                        refine jiret hF hr (by decide +kernel) ?_
                        exact lMR ⟨hR_m_25, by exact ⟨fun h => absurd h.2.1 (by unfold pgC2; rw [← hv1, ← hv2, ← hv3, ← hv4, ← hv5, ← hv6]; omega), fun _ => ⟨rfl, fun a j q1 q2 q3 _ => hf6 a j q1 q2 q3⟩⟩⟩
                    · refine jif_eq hF (off := 27) 204 (by decide +kernel) (by decide) (by decide) (fun _ => ?_) (fun h => absurd h (by decide))
                      refine jblk hF [(.iconst (-1), 1)] (by decide +kernel) (pc' := 205) (lo' := [(10, (0, v_27)), (9, (0, v_24)), (8, (0, v_21)), (7, (0, v_18)), (6, (0, v_15)), (5, (0, v_12)), (0, (2, 35)), (1, (0, f)), (2, (0, first)), (3, (0, n)), (4, (0, t))]) (st' := [(0, (-1))]) rfl ?_
                      refine jiret hF hr (by decide +kernel) ?_
                      exact lMR ⟨hR_m_25, by exact ⟨fun h => absurd h.2.1 (by unfold pgC2; rw [← hv1, ← hv2, ← hv3, ← hv4, ← hv5, ← hv6]; omega), fun _ => ⟨rfl, fun a j q1 q2 q3 _ => hf6 a j q1 q2 q3⟩⟩⟩
                  · refine jif_eq hF (off := 41) 204 (by decide +kernel) (by decide) (by decide) (fun _ => ?_) (fun h => absurd h (by decide))
                    refine jblk hF [(.iconst (-1), 1)] (by decide +kernel) (pc' := 205) (lo' := [(10, (0, v_27)), (9, (0, v_24)), (8, (0, v_21)), (7, (0, v_18)), (6, (0, v_15)), (5, (0, v_12)), (0, (2, 35)), (1, (0, f)), (2, (0, first)), (3, (0, n)), (4, (0, t))]) (st' := [(0, (-1))]) rfl ?_
                    refine jiret hF hr (by decide +kernel) ?_
                    exact lMR ⟨hR_m_25, by exact ⟨fun h => absurd h.2.1 (by unfold pgC2; rw [← hv1, ← hv2, ← hv3, ← hv4, ← hv5, ← hv6]; omega), fun _ => ⟨rfl, fun a j q1 q2 q3 _ => hf6 a j q1 q2 q3⟩⟩⟩
                · refine jif_eq hF (off := 55) 204 (by decide +kernel) (by decide) (by decide) (fun _ => ?_) (fun h => absurd h (by decide))
                  refine jblk hF [(.iconst (-1), 1)] (by decide +kernel) (pc' := 205) (lo' := [(10, (0, v_27)), (9, (0, v_24)), (8, (0, v_21)), (7, (0, v_18)), (6, (0, v_15)), (5, (0, v_12)), (0, (2, 35)), (1, (0, f)), (2, (0, first)), (3, (0, n)), (4, (0, t))]) (st' := [(0, (-1))]) rfl ?_
                  refine jiret hF hr (by decide +kernel) ?_
                  exact lMR ⟨hR_m_25, by exact ⟨fun h => absurd h.2.1 (by unfold pgC2; rw [← hv1, ← hv2, ← hv3, ← hv4, ← hv5, ← hv6]; omega), fun _ => ⟨rfl, fun a j q1 q2 q3 _ => hf6 a j q1 q2 q3⟩⟩⟩
              · refine jif_eq hF (off := 65) 204 (by decide +kernel) (by decide) (by decide) (fun _ => ?_) (fun h => absurd h (by decide))
                refine jblk hF [(.iconst (-1), 1)] (by decide +kernel) (pc' := 205) (lo' := [(10, (0, v_27)), (9, (0, v_24)), (8, (0, v_21)), (7, (0, v_18)), (6, (0, v_15)), (5, (0, v_12)), (0, (2, 35)), (1, (0, f)), (2, (0, first)), (3, (0, n)), (4, (0, t))]) (st' := [(0, (-1))]) rfl ?_
                refine jiret hF hr (by decide +kernel) ?_
                exact lMR ⟨hR_m_25, by exact ⟨fun h => absurd h.2.1 (by unfold pgC2; rw [← hv1, ← hv2, ← hv3, ← hv4, ← hv5, ← hv6]; omega), fun _ => ⟨rfl, fun a j q1 q2 q3 _ => hf6 a j q1 q2 q3⟩⟩⟩
            · refine jif_eq hF (off := 75) 204 (by decide +kernel) (by decide) (by decide) (fun _ => ?_) (fun h => absurd h (by decide))
              refine jblk hF [(.iconst (-1), 1)] (by decide +kernel) (pc' := 205) (lo' := [(10, (0, v_27)), (9, (0, v_24)), (8, (0, v_21)), (7, (0, v_18)), (6, (0, v_15)), (5, (0, v_12)), (0, (2, 35)), (1, (0, f)), (2, (0, first)), (3, (0, n)), (4, (0, t))]) (st' := [(0, (-1))]) rfl ?_
              refine jiret hF hr (by decide +kernel) ?_
              exact lMR ⟨hR_m_25, by exact ⟨fun h => absurd h.2.1 (by unfold pgC2; rw [← hv1, ← hv2, ← hv3, ← hv4, ← hv5, ← hv6]; omega), fun _ => ⟨rfl, fun a j q1 q2 q3 _ => hf6 a j q1 q2 q3⟩⟩⟩
          · refine jblk hF [(.iconst (-1), 1)] (by decide +kernel) (pc' := 60) (lo' := [(0, (2, 35)), (1, (0, f)), (2, (0, first)), (3, (0, n)), (4, (0, t))]) (st' := [(0, (-1))]) rfl ?_
            refine jiret hF hr (by decide +kernel) ?_
            exact lMR ⟨hR, by exact ⟨fun h => absurd h.1 (by omega), fun _ => ⟨rfl, fun _ _ _ _ _ _ => rfl⟩⟩⟩
        · refine jif_eq hF (off := 12) 59 (by decide +kernel) (by decide) (by decide) (fun _ => ?_) (fun h => absurd h (by decide))
          refine jblk hF [(.iconst (-1), 1)] (by decide +kernel) (pc' := 60) (lo' := [(0, (2, 35)), (1, (0, f)), (2, (0, first)), (3, (0, n)), (4, (0, t))]) (st' := [(0, (-1))]) rfl ?_
          refine jiret hF hr (by decide +kernel) ?_
          exact lMR ⟨hR, by exact ⟨fun h => absurd h.1 (by omega), fun _ => ⟨rfl, fun _ _ _ _ _ _ => rfl⟩⟩⟩
      · refine jif_eq hF (off := 27) 59 (by decide +kernel) (by decide) (by decide) (fun _ => ?_) (fun h => absurd h (by decide))
        refine jblk hF [(.iconst (-1), 1)] (by decide +kernel) (pc' := 60) (lo' := [(0, (2, 35)), (1, (0, f)), (2, (0, first)), (3, (0, n)), (4, (0, t))]) (st' := [(0, (-1))]) rfl ?_
        refine jiret hF hr (by decide +kernel) ?_
        exact lMR ⟨hR, by exact ⟨fun h => absurd h.1 (by omega), fun _ => ⟨rfl, fun _ _ _ _ _ _ => rfl⟩⟩⟩
    · refine jif_eq hF (off := 37) 59 (by decide +kernel) (by decide) (by decide) (fun _ => ?_) (fun h => absurd h (by decide))
      refine jblk hF [(.iconst (-1), 1)] (by decide +kernel) (pc' := 60) (lo' := [(0, (2, 35)), (1, (0, f)), (2, (0, first)), (3, (0, n)), (4, (0, t))]) (st' := [(0, (-1))]) rfl ?_
      refine jiret hF hr (by decide +kernel) ?_
      exact lMR ⟨hR, by exact ⟨fun h => absurd h.1 (by omega), fun _ => ⟨rfl, fun _ _ _ _ _ _ => rfl⟩⟩⟩
  · refine jif_eq hF (off := 48) 59 (by decide +kernel) (by decide) (by decide) (fun _ => ?_) (fun h => absurd h (by decide))
    refine jblk hF [(.iconst (-1), 1)] (by decide +kernel) (pc' := 60) (lo' := [(0, (2, 35)), (1, (0, f)), (2, (0, first)), (3, (0, n)), (4, (0, t))]) (st' := [(0, (-1))]) rfl ?_
    refine jiret hF hr (by decide +kernel) ?_
    exact lMR ⟨hR, by exact ⟨fun h => absurd h.1 (by omega), fun _ => ⟨rfl, fun _ _ _ _ _ _ => rfl⟩⟩⟩
end
