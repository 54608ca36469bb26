section
/-! the reader at 7: its place, its fault -/
def upR (mem : Int → Int → Int) (a w : Int) : Int → Int → Int := fun b j => if b = 7 ∧ j = 1 then a else if b = 7 ∧ j = 2 then w else mem b j
theorem upR_1 {mem : Int → Int → Int} {a w : Int} : upR mem a w 7 1 = a := if_pos ⟨rfl, rfl⟩
theorem upR_2 {mem : Int → Int → Int} {a w : Int} : upR mem a w 7 2 = w := (if_neg (fun h => absurd h.2 (by decide))).trans (if_pos ⟨rfl, rfl⟩)
theorem upR_o {mem : Int → Int → Int} {a w b j : Int} (h : ¬ (b = 7 ∧ (j = 1 ∨ j = 2))) : upR mem a w b j = mem b j := (if_neg (fun q => h ⟨q.1, Or.inl q.2⟩)).trans (if_neg (fun q => h ⟨q.1, Or.inr q.2⟩))
theorem upR_s1 {mem : Int → Int → Int} {a w v : Int} : set2 (upR mem a w) 7 1 v = upR mem v w := by
  funext b j
  unfold set2 upR
  by_cases h : b = 7 ∧ j = 1
  · rw [if_pos h, if_pos h]
  · rw [if_neg h, if_neg h, if_neg h]
theorem upR_s2 {mem : Int → Int → Int} {a w v : Int} : set2 (upR mem a w) 7 2 v = upR mem a v := by
  funext b j
  unfold set2 upR
  by_cases h : b = 7 ∧ j = 2
  · rw [if_pos h, if_neg (by omega), if_pos h]
  · rw [if_neg h]
    split
    · rfl
    · rfl
theorem upR_me (mem : Int → Int → Int) : mem = upR mem (mem 7 1) (mem 7 2) := by
  funext b j
  unfold upR
  split
  · rename_i h; rw [h.1, h.2]
  · split
    · rename_i h; rw [h.1, h.2]
    · rfl
theorem upR_up {mem : Int → Int → Int} {a w a' w' : Int} : upR (upR mem a w) a' w' = upR mem a' w' := by
  funext b j
  unfold upR
  split
  · rfl
  · split
    · rfl
    · rfl
/-- the text that the reader holds -/
def RDX (kd : Int → Nat) (ln : Int → Int) (t r : Int) (T : Int → Int) (L : Int) (mem : Int → Int → Int) : Prop := kd 7 = 7 ∧ mem 7 0 = t ∧ kd t = 12 ∧ 3 ≤ t ∧ mem t 0 = r ∧ mem t 1 = L ∧ kd r = 20 ∧ 3 ≤ r ∧ mem r = T ∧ 0 ≤ L ∧ L ≤ ln r ∧ ln r ≤ 160 ∧ ∀ i : Int, 0 ≤ i → i < L → 0 ≤ T i ∧ T i ≤ 255
theorem RDX.up {kd : Int → Nat} {ln : Int → Int} {t r : Int} {T : Int → Int} {L a w : Int} {mem : Int → Int → Int} (h : RDX kd ln t r T L mem) : RDX kd ln t r T L (upR mem a w) := by
  obtain ⟨h1, h2, h3, h4, h5, h6, h7, h8, h9, h10⟩ := h
  have ht : t ≠ 7 := fun q1 => by rw [q1, h1] at h3; omega
  have hr : r ≠ 7 := fun q1 => by rw [q1, h1] at h7; omega
  exact ⟨h1, (upR_o (by omega)).trans h2, h3, h4, (upR_o (by omega)).trans h5, (upR_o (by omega)).trans h6, h7, h8, by rw [← h9]; funext j; exact upR_o (by omega), h10⟩
def nsV (T : Int → Int) (L a w : Int) : Int := if w = -1 then chr T L (skp T L a) else -2
def nsA (T : Int → Int) (L a w : Int) : Int := if w = -1 then skp T L a else a
def rfW (L a w : Int) : Int := if w = -1 then (if L < a then L else a) else w
theorem nsA_bd {T : Int → Int} {L a w : Int} (h : w = -1 → 0 ≤ a ∧ a ≤ L + 1) : w = -1 → 0 ≤ nsA T L a w ∧ nsA T L a w ≤ L + 1 := by
  intro hw
  have h1 := skp_f T L a
  have h2 := h hw
  unfold nsA
  rw [if_pos hw]
  refine ⟨by omega, ?_⟩
  rcases Int.lt_or_le L a with q | q
  · rw [skp_stop (by omega)]; omega
  · have := h1.2.1 q
    omega
theorem nsV_bd {kd : Int → Nat} {ln : Int → Int} {t r : Int} {T : Int → Int} {L a w : Int} {mem : Int → Int → Int} (hRD : RDX kd ln t r T L mem) (h : w = -1 → 0 ≤ a ∧ a ≤ L + 1) : -2 ≤ nsV T L a w ∧ nsV T L a w ≤ 255 := by
  unfold nsV
  split
  · rename_i hw
    have h1 := skp_f T L a
    have h2 := h hw
    rcases Int.lt_or_le (skp T L a) L with q | q
    · rw [chr_in q]
      have := hRD.2.2.2.2.2.2.2.2.2.2.2.2 (skp T L a) (by omega) q
      omega
    · rw [chr_out (by omega)]; omega
  · omega
theorem tdivQ {a : Int} (b : Int) (ha : InI a) : -2147483648 ≤ (if b = 0 then 0 else a.tdiv b) ∧ (if b = 0 then 0 else a.tdiv b) ≤ 2147483648 := by
  split
  · exact ⟨by decide, by decide⟩
  · exact tdivI b ha
theorem tmodQ {a : Int} (b : Int) (ha : InI a) : -2147483648 ≤ (if b = 0 then 0 else a.tmod b) ∧ (if b = 0 then 0 else a.tmod b) ≤ 2147483648 := by
  split
  · exact ⟨by decide, by decide⟩
  · exact tmodI b ha
theorem cut_q (b x : Int) : cutV (if b = 0 then 0 else x) = if b = 0 then 0 else cutV x := by
  by_cases h : b = 0
  · rw [if_pos h, if_pos h]
    rfl
  · rw [if_neg h, if_neg h]
set_option maxHeartbeats 4000000 in
set_option maxRecDepth 100000 in
theorem c_X5_isDigit {l : Launch} {g : GP} (hG : GH g) {kd : Int → Nat} {ln : Int → Int} {mem : Int → Int → Int} {sz : Nat} (c : Int) (h_c : InI c) : MT l g yX5_isDigit cX5_isDigit 1 (some .boolean) 0 0 0 [(0, c)] kd ln mem sz (pB (48 ≤ c ∧ c ≤ 57) kd ln mem sz) := by
  refine MT_of hG (by decide +kernel) (Nat.le_of_ble_eq_true rfl) (fun z hF hr hn => ?_)
  refine jblk hF [(.iload_n 0, 1), (.bipush 48, 2)] (by decide +kernel) (pc' := 3) (lo' := [(0, (0, c))]) (st' := [(0, 48), (0, c)]) rfl ?_
  refine jicmp_lt hF (off := 13) 16 (by decide +kernel) (by decide) (by omega) (by decide) (fun h_1 => ?_) (fun h_1 => ?_)
  · refine jblk hF [(.iconst 0, 1)] (by decide +kernel) (pc' := 17) (lo' := [(0, (0, c))]) (st' := [(0, 0)]) rfl ?_
    refine jzret hF hr (by omega) (by decide +kernel) ?_
    exact lB0 (by omega)
  · refine jblk hF [(.iload_n 0, 1), (.bipush 57, 2)] (by decide +kernel) (pc' := 9) (lo' := [(0, (0, c))]) (st' := [(0, 57), (0, c)]) rfl ?_
    refine jicmp_gt hF (off := 7) 16 (by decide +kernel) (by decide) (by omega) (by decide) (fun h_2 => ?_) (fun h_2 => ?_)
    · refine jblk hF [(.iconst 0, 1)] (by decide +kernel) (pc' := 17) (lo' := [(0, (0, c))]) (st' := [(0, 0)]) rfl ?_
      refine jzret hF hr (by omega) (by decide +kernel) ?_
      exact lB0 (by omega)
    · refine jblk hF [(.iconst 1, 1)] (by decide +kernel) (pc' := 13) (lo' := [(0, (0, c))]) (st' := [(0, 1)]) rfl ?_
      refine jgoto hF (off := 4) 17 (by decide +kernel) (by decide) ?_
      refine jzret hF hr (by omega) (by decide +kernel) ?_
      exact lB1 (by omega)
set_option maxHeartbeats 4000000 in
set_option maxRecDepth 100000 in
theorem c_X5_opensUnit {l : Launch} {g : GP} (hG : GH g) {kd : Int → Nat} {ln : Int → Int} {mem : Int → Int → Int} {sz : Nat} (c : Int) (h_c : InI c) : MT l g yX5_opensUnit cX5_opensUnit 1 (some .boolean) 0 0 0 [(0, c)] kd ln mem sz (pB (c = 33 ∨ c = 40) kd ln mem sz) := by
  refine MT_of hG (by decide +kernel) (Nat.le_of_ble_eq_true rfl) (fun z hF hr hn => ?_)
  refine jblk hF [(.iload_n 0, 1), (.bipush 33, 2)] (by decide +kernel) (pc' := 3) (lo' := [(0, (0, c))]) (st' := [(0, 33), (0, c)]) rfl ?_
  refine jicmp_eq hF (off := 9) 12 (by decide +kernel) (by decide) (by omega) (by decide) (fun h_1 => ?_) (fun h_1 => ?_)
  · refine jblk hF [(.iconst 1, 1)] (by decide +kernel) (pc' := 13) (lo' := [(0, (0, c))]) (st' := [(0, 1)]) rfl ?_
    refine jgoto hF (off := 4) 17 (by decide +kernel) (by decide) ?_
    refine jzret hF hr (by omega) (by decide +kernel) ?_
    exact lB1 (by omega)
  · refine jblk hF [(.iload_n 0, 1), (.bipush 40, 2)] (by decide +kernel) (pc' := 9) (lo' := [(0, (0, c))]) (st' := [(0, 40), (0, c)]) rfl ?_
    refine jicmp_ne hF (off := 7) 16 (by decide +kernel) (by decide) (by omega) (by decide) (fun h_2 => ?_) (fun h_2 => ?_)
    · refine jblk hF [(.iconst 0, 1)] (by decide +kernel) (pc' := 17) (lo' := [(0, (0, c))]) (st' := [(0, 0)]) rfl ?_
      refine jzret hF hr (by omega) (by decide +kernel) ?_
      exact lB0 (by omega)
    · refine jblk hF [(.iconst 1, 1)] (by decide +kernel) (pc' := 13) (lo' := [(0, (0, c))]) (st' := [(0, 1)]) rfl ?_
      refine jgoto hF (off := 4) 17 (by decide +kernel) (by decide) ?_
      refine jzret hF hr (by omega) (by decide +kernel) ?_
      exact lB1 (by omega)
set_option maxHeartbeats 4000000 in
set_option maxRecDepth 100000 in
theorem c_X5_compares {l : Launch} {g : GP} (hG : GH g) {kd : Int → Nat} {ln : Int → Int} {mem : Int → Int → Int} {sz : Nat} (c : Int) (h_c : InI c) : MT l g yX5_compares cX5_compares 1 (some .boolean) 0 0 0 [(0, c)] kd ln mem sz (pB (c = 61 ∨ c = 60 ∨ c = 62) kd ln mem sz) := by
  refine MT_of hG (by decide +kernel) (Nat.le_of_ble_eq_true rfl) (fun z hF hr hn => ?_)
  refine jblk hF [(.iload_n 0, 1), (.bipush 61, 2)] (by decide +kernel) (pc' := 3) (lo' := [(0, (0, c))]) (st' := [(0, 61), (0, c)]) rfl ?_
  refine jicmp_eq hF (off := 15) 18 (by decide +kernel) (by decide) (by omega) (by decide) (fun h_1 => ?_) (fun h_1 => ?_)
  · refine jblk hF [(.iconst 1, 1)] (by decide +kernel) (pc' := 19) (lo' := [(0, (0, c))]) (st' := [(0, 1)]) rfl ?_
    refine jgoto hF (off := 4) 23 (by decide +kernel) (by decide) ?_
    refine jzret hF hr (by omega) (by decide +kernel) ?_
    exact lB1 (by omega)
  · refine jblk hF [(.iload_n 0, 1), (.bipush 60, 2)] (by decide +kernel) (pc' := 9) (lo' := [(0, (0, c))]) (st' := [(0, 60), (0, c)]) rfl ?_
    refine jicmp_eq hF (off := 9) 18 (by decide +kernel) (by decide) (by omega) (by decide) (fun h_2 => ?_) (fun h_2 => ?_)
    · refine jblk hF [(.iconst 1, 1)] (by decide +kernel) (pc' := 19) (lo' := [(0, (0, c))]) (st' := [(0, 1)]) rfl ?_
      refine jgoto hF (off := 4) 23 (by decide +kernel) (by decide) ?_
      refine jzret hF hr (by omega) (by decide +kernel) ?_
      exact lB1 (by omega)
    · refine jblk hF [(.iload_n 0, 1), (.bipush 62, 2)] (by decide +kernel) (pc' := 15) (lo' := [(0, (0, c))]) (st' := [(0, 62), (0, c)]) rfl ?_
      refine jicmp_ne hF (off := 7) 22 (by decide +kernel) (by decide) (by omega) (by decide) (fun h_3 => ?_) (fun h_3 => ?_)
      · refine jblk hF [(.iconst 0, 1)] (by decide +kernel) (pc' := 23) (lo' := [(0, (0, c))]) (st' := [(0, 0)]) rfl ?_
        refine jzret hF hr (by omega) (by decide +kernel) ?_
        exact lB0 (by omega)
      · refine jblk hF [(.iconst 1, 1)] (by decide +kernel) (pc' := 19) (lo' := [(0, (0, c))]) (st' := [(0, 1)]) rfl ?_
        refine jgoto hF (off := 4) 23 (by decide +kernel) (by decide) ?_
        refine jzret hF hr (by omega) (by decide +kernel) ?_
        exact lB1 (by omega)
set_option maxHeartbeats 4000000 in
set_option maxRecDepth 100000 in
theorem c_X5_compared {l : Launch} {g : GP} (hG : GH g) {kd : Int → Nat} {ln : Int → Int} {mem : Int → Int → Int} {sz : Nat} (a s b : Int) (hb_a : -2147483648 ≤ a ∧ a ≤ 2147483647) (hb_b : -2147483648 ≤ b ∧ b ≤ 2147483647) (h_s : InI s) : MT l g yX5_compared cX5_compared 5 (some .boolean) 0 0 0 [(1, a), (0, s), (1, b)] kd ln mem sz (pB (if s = 61 then a = b else if s = 60 then a < b else b < a) kd ln mem sz) := by
  refine MT_of hG (by decide +kernel) (Nat.le_of_ble_eq_true rfl) (fun z hF hr hn => ?_)
  refine jblk hF [(.iload_n 2, 1), (.bipush 61, 2)] (by decide +kernel) (pc' := 3) (lo' := [(0, (1, a)), (2, (0, s)), (3, (1, b))]) (st' := [(0, 61), (0, s)]) rfl ?_
  refine jicmp_ne hF (off := 15) 18 (by decide +kernel) (by decide) (by omega) (by decide) (fun h_1 => ?_) (fun h_1 => ?_)
  · refine jblk hF [(.iload_n 2, 1), (.bipush 60, 2)] (by decide +kernel) (pc' := 21) (lo' := [(0, (1, a)), (2, (0, s)), (3, (1, b))]) (st' := [(0, 60), (0, s)]) rfl ?_
    refine jicmp_ne hF (off := 17) 38 (by decide +kernel) (by decide) (by omega) (by decide) (fun h_2 => ?_) (fun h_2 => ?_)
    · refine jblk hF [(.lload_n 0, 1), (.lload_n 3, 1)] (by decide +kernel) (pc' := 40) (lo' := [(0, (1, a)), (2, (0, s)), (3, (1, b))]) (st' := [(1, b), (1, a)]) rfl ?_
      refine jlcmp_le hF (off := 7) 48 (by decide +kernel) (by decide +kernel) (by decide) (by omega) (by omega) (fun h_3 => ?_) (fun h_3 => ?_)
      · refine jblk hF [(.iconst 0, 1)] (by decide +kernel) (pc' := 49) (lo' := [(0, (1, a)), (2, (0, s)), (3, (1, b))]) (st' := [(0, 0)]) rfl ?_
        refine jzret hF hr (by omega) (by decide +kernel) ?_
        exact lB0 (by first | (rw [if_pos (by omega)]; omega) | (rw [if_neg (by omega), if_pos (by omega)]; omega) | (rw [if_neg (by omega), if_neg (by omega)]; omega))
      · refine jblk hF [(.iconst 1, 1)] (by decide +kernel) (pc' := 45) (lo' := [(0, (1, a)), (2, (0, s)), (3, (1, b))]) (st' := [(0, 1)]) rfl ?_
        refine jgoto hF (off := 4) 49 (by decide +kernel) (by decide) ?_
        refine jzret hF hr (by omega) (by decide +kernel) ?_
        exact lB1 (by first | (rw [if_pos (by omega)]; omega) | (rw [if_neg (by omega), if_pos (by omega)]; omega) | (rw [if_neg (by omega), if_neg (by omega)]; omega))
    · refine jblk hF [(.lload_n 0, 1), (.lload_n 3, 1)] (by decide +kernel) (pc' := 26) (lo' := [(0, (1, a)), (2, (0, s)), (3, (1, b))]) (st' := [(1, b), (1, a)]) rfl ?_
      refine jlcmp_ge hF (off := 7) 34 (by decide +kernel) (by decide +kernel) (by decide) (by omega) (by omega) (fun h_4 => ?_) (fun h_4 => ?_)
      · refine jblk hF [(.iconst 0, 1)] (by decide +kernel) (pc' := 35) (lo' := [(0, (1, a)), (2, (0, s)), (3, (1, b))]) (st' := [(0, 0)]) rfl ?_
        refine jgoto hF (off := 14) 49 (by decide +kernel) (by decide) ?_
        refine jzret hF hr (by omega) (by decide +kernel) ?_
        exact lB0 (by first | (rw [if_pos (by omega)]; omega) | (rw [if_neg (by omega), if_pos (by omega)]; omega) | (rw [if_neg (by omega), if_neg (by omega)]; omega))
      · refine jblk hF [(.iconst 1, 1)] (by decide +kernel) (pc' := 31) (lo' := [(0, (1, a)), (2, (0, s)), (3, (1, b))]) (st' := [(0, 1)]) rfl ?_
        refine jgoto hF (off := 18) 49 (by decide +kernel) (by decide) ?_
        refine jzret hF hr (by omega) (by decide +kernel) ?_
        exact lB1 (by first | (rw [if_pos (by omega)]; omega) | (rw [if_neg (by omega), if_pos (by omega)]; omega) | (rw [if_neg (by omega), if_neg (by omega)]; omega))
  · refine jblk hF [(.lload_n 0, 1), (.lload_n 3, 1)] (by decide +kernel) (pc' := 8) (lo' := [(0, (1, a)), (2, (0, s)), (3, (1, b))]) (st' := [(1, b), (1, a)]) rfl ?_
    refine jlcmp_ne hF (off := 7) 16 (by decide +kernel) (by decide +kernel) (by decide) (by omega) (by omega) (fun h_5 => ?_) (fun h_5 => ?_)
    · refine jblk hF [(.iconst 0, 1)] (by decide +kernel) (pc' := 17) (lo' := [(0, (1, a)), (2, (0, s)), (3, (1, b))]) (st' := [(0, 0)]) rfl ?_
      refine jzret hF hr (by omega) (by decide +kernel) ?_
      exact lB0 (by first | (rw [if_pos (by omega)]; omega) | (rw [if_neg (by omega), if_pos (by omega)]; omega) | (rw [if_neg (by omega), if_neg (by omega)]; omega))
    · refine jblk hF [(.iconst 1, 1)] (by decide +kernel) (pc' := 13) (lo' := [(0, (1, a)), (2, (0, s)), (3, (1, b))]) (st' := [(0, 1)]) rfl ?_
      refine jgoto hF (off := 4) 17 (by decide +kernel) (by decide) ?_
      refine jzret hF hr (by omega) (by decide +kernel) ?_
      exact lB1 (by first | (rw [if_pos (by omega)]; omega) | (rw [if_neg (by omega), if_pos (by omega)]; omega) | (rw [if_neg (by omega), if_neg (by omega)]; omega))
set_option maxHeartbeats 4000000 in
set_option maxRecDepth 100000 in
theorem c_X5_cut {l : Launch} {g : GP} (hG : GH g) {kd : Int → Nat} {ln : Int → Int} {mem : Int → Int → Int} {sz : Nat} (a : Int) (h_a : InL a) : MT l g yX5_cut cX5_cut 2 (some .long) 1 0 0 [(1, a)] kd ln mem sz (pV (1, cutV a) kd ln mem sz) := by
  refine MT_of hG (by decide +kernel) (Nat.le_of_ble_eq_true rfl) (fun z hF hr hn => ?_)
  refine jldc2 hF (-1000000) (cst_l wd_629 (by decide)) (by decide +kernel) ?_
  refine jldc2 hF 1000000 (cst_l wd_630 (by decide)) (by decide +kernel) ?_
  refine jblk hF [(.lload_n 0, 1)] (by decide +kernel) (pc' := 7) (lo' := [(0, (1, a))]) (st' := [(1, a), (1, 1000000), (1, (-1000000))]) rfl ?_
  refine jcallS hF (c_J9_min_f86c9 hG 1000000 a (by omega) (by omega)) MW_J9_min_f86c9 wd_631 wd_632 (by decide +kernel) [(1, (-1000000))] rfl rfl (by decide) (Nat.le_of_ble_eq_true rfl) (by decide) (kV ?_)
  refine jcallS hF (c_J9_max_f86c9 hG (-1000000) (if a < 1000000 then a else 1000000) (by omega) (by omega)) MW_J9_max_f86c9 wd_634 wd_635 (by decide +kernel) [] rfl rfl (by decide) (Nat.le_of_ble_eq_true rfl) (by decide) (kV ?_)
  refine jlret hF hr (by decide +kernel) ?_
  exact lV (by unfold cutV; (repeat' split) <;> omega)
set_option maxHeartbeats 4000000 in
set_option maxRecDepth 100000 in
theorem c_X5_quotient {l : Launch} {g : GP} (hG : GH g) {kd : Int → Nat} {ln : Int → Int} {mem : Int → Int → Int} {sz : Nat} (a b : Int) (hb_a : -2147483648 ≤ a ∧ a ≤ 2147483647) (hb_b : -2147483648 ≤ b ∧ b ≤ 2147483647) : MT l g yX5_quotient cX5_quotient 4 (some .long) 0 0 0 [(1, a), (1, b)] kd ln mem sz (pV (1, (if b = 0 then 0 else a.tdiv b)) kd ln mem sz) := by
  refine MT_of hG (by decide +kernel) (Nat.le_of_ble_eq_true rfl) (fun z hF hr hn => ?_)
  have hq := tdivI b (⟨by omega, by omega⟩ : InI a)
  refine jblk hF [(.lload_n 2, 1)] (by decide +kernel) (pc' := 1) (lo' := [(0, (1, a)), (2, (1, b))]) (st' := [(1, b)]) rfl ?_
  refine jlconst hF (n := 0) 0 rfl (by decide +kernel) ?_
  refine jlcmp_ne hF (off := 7) 10 (by decide +kernel) (by decide +kernel) (by decide) (by omega) (by decide) (fun h_1 => ?_) (fun h_1 => ?_)
  · refine jblk hF [(.lload_n 0, 1), (.lload_n 2, 1)] (by decide +kernel) (pc' := 12) (lo' := [(0, (1, a)), (2, (1, b))]) (st' := [(1, b), (1, a)]) rfl ?_
    refine jldiv hF (by decide +kernel) (by omega) (by omega) (by omega) ?_
    refine jlret hF hr (by decide +kernel) ?_
    exact lV (by first | exact (if_pos (by omega)).symm | exact (if_neg (by omega)).symm)
  · refine jlconst hF (n := 0) 0 rfl (by decide +kernel) ?_
    refine jgoto hF (off := 6) 13 (by decide +kernel) (by decide) ?_
    refine jlret hF hr (by decide +kernel) ?_
    exact lV (by first | exact (if_pos (by omega)).symm | exact (if_neg (by omega)).symm)
set_option maxHeartbeats 4000000 in
set_option maxRecDepth 100000 in
theorem c_X5_remainder {l : Launch} {g : GP} (hG : GH g) {kd : Int → Nat} {ln : Int → Int} {mem : Int → Int → Int} {sz : Nat} (a b : Int) (hb_a : -2147483648 ≤ a ∧ a ≤ 2147483647) (hb_b : -2147483648 ≤ b ∧ b ≤ 2147483647) : MT l g yX5_remainder cX5_remainder 4 (some .long) 0 0 0 [(1, a), (1, b)] kd ln mem sz (pV (1, (if b = 0 then 0 else a.tmod b)) kd ln mem sz) := by
  refine MT_of hG (by decide +kernel) (Nat.le_of_ble_eq_true rfl) (fun z hF hr hn => ?_)
  have hq := tmodI b (⟨by omega, by omega⟩ : InI a)
  refine jblk hF [(.lload_n 2, 1)] (by decide +kernel) (pc' := 1) (lo' := [(0, (1, a)), (2, (1, b))]) (st' := [(1, b)]) rfl ?_
  refine jlconst hF (n := 0) 0 rfl (by decide +kernel) ?_
  refine jlcmp_ne hF (off := 7) 10 (by decide +kernel) (by decide +kernel) (by decide) (by omega) (by decide) (fun h_1 => ?_) (fun h_1 => ?_)
  · refine jblk hF [(.lload_n 0, 1), (.lload_n 2, 1)] (by decide +kernel) (pc' := 12) (lo' := [(0, (1, a)), (2, (1, b))]) (st' := [(1, b), (1, a)]) rfl ?_
    refine jlrem hF (by decide +kernel) (by omega) (by omega) (by omega) ?_
    refine jlret hF hr (by decide +kernel) ?_
    exact lV (by first | exact (if_pos (by omega)).symm | exact (if_neg (by omega)).symm)
  · refine jlconst hF (n := 0) 0 rfl (by decide +kernel) ?_
    refine jgoto hF (off := 6) 13 (by decide +kernel) (by decide) ?_
    refine jlret hF hr (by decide +kernel) ?_
    exact lV (by first | exact (if_pos (by omega)).symm | exact (if_neg (by omega)).symm)
set_option maxHeartbeats 4000000 in
set_option maxRecDepth 100000 in
theorem c_X5_refuse {l : Launch} {g : GP} (hG : GH g) {kd : Int → Nat} {ln : Int → Int} {mem : Int → Int → Int} {sz : Nat} (t : Int) (r : Int) (T : Int → Int) (L : Int) (hRD : RDX kd ln t r T L mem) (ha : mem 7 2 = -1 → InI (mem 7 1)) (hw : InI (mem 7 2)) : MT l g yX5_refuse cX5_refuse 1 none 0 0 0 [(2, 7)] kd ln mem sz (pMV (fun mem' => (mem' = upR mem (mem 7 1) (rfW L (mem 7 1) (mem 7 2)))) kd ln sz) := by
  refine MT_of hG (by decide +kernel) (Nat.le_of_ble_eq_true rfl) (fun z hF hr hn => ?_)
  have ⟨r1, r2, r3, r4, r5, r6, r7, r8, r9, r10, r11, r12, r13⟩ := hRD
  have kt : kd (mem 7 0) = 12 := by rw [r2]; exact r3
  have kr : kd (mem (mem 7 0) 0) = 20 := by rw [r2, r5]; exact r7
  have kL : mem (mem 7 0) 1 = L := by rw [r2]; exact r6
  have kT : mem (mem (mem 7 0) 0) = T := by rw [r2, r5]; exact r9
  have kn : ln (mem (mem 7 0) 0) = ln r := by rw [r2, r5]
  have kg : 3 ≤ mem 7 0 ∧ 3 ≤ mem (mem 7 0) 0 := by rw [r2, r5]; omega
  refine jblk hF [(.aload_n 0, 1)] (by decide +kernel) (pc' := 1) (lo' := [(0, (2, 7))]) (st' := [(2, 7)]) rfl ?_
  refine jget hF 6 2 0 2 rfl (by decide) (by decide) rfl wd_172 (by decide +kernel) (by first | assumption | omega) ?_
  refine jblk hF [(.iconst (-1), 1)] (by decide +kernel) (pc' := 5) (lo' := [(0, (2, 7))]) (st' := [(0, (-1)), (0, mem 7 2)]) rfl ?_
  refine jicmp_ne hF (off := 35) 40 (by decide +kernel) (by decide) (by omega) (by decide) (fun h_1 => ?_) (fun h_1 => ?_)
  · refine jvret hF hr (by decide +kernel) ?_
    exact lMV (by first | (unfold rfW; rw [if_neg (by omega)]; exact upR_me mem) | (rw [show rfW L (mem 7 1) (mem 7 2) = mem 7 1 by (unfold rfW; rw [if_pos (by omega), if_neg (by omega)]), ← upR_s2 (w := mem 7 2), ← upR_me]) | (rw [show rfW L (mem 7 1) (mem 7 2) = L by (unfold rfW; rw [if_pos (by omega)]; split <;> omega), ← kL, ← upR_s2 (w := mem 7 2), ← upR_me]))
  · refine jblk hF [(.aload_n 0, 1), (.aload_n 0, 1)] (by decide +kernel) (pc' := 10) (lo' := [(0, (2, 7))]) (st' := [(2, 7), (2, 7)]) rfl ?_
    refine jget hF 6 1 0 1 rfl (by decide) (by decide) rfl wd_171 (by decide +kernel) (by first | assumption | omega) ?_
    refine jblk hF [(.aload_n 0, 1)] (by decide +kernel) (pc' := 14) (lo' := [(0, (2, 7))]) (st' := [(2, 7), (0, mem 7 1), (2, 7)]) rfl ?_
    refine jget hF 6 0 2 0 rfl (by decide) (by decide) rfl wd_170 (by decide +kernel) (by first | assumption | omega) ?_
    refine jget hF 11 1 0 1 rfl (by decide) (by decide) rfl wd_150 (by decide +kernel) (by first | assumption | omega) ?_
    refine jicmp_ge hF (off := 10) 30 (by decide +kernel) (by decide) (by omega) (by omega) (fun h_2 => ?_) (fun h_2 => ?_)
    · refine jblk hF [(.aload_n 0, 1)] (by decide +kernel) (pc' := 31) (lo' := [(0, (2, 7))]) (st' := [(2, 7), (2, 7)]) rfl ?_
      refine jget hF 6 0 2 0 rfl (by decide) (by decide) rfl wd_170 (by decide +kernel) (by first | assumption | omega) ?_
      refine jget hF 11 1 0 1 rfl (by decide) (by decide) rfl wd_150 (by decide +kernel) (by first | assumption | omega) ?_
      refine jput hF 6 2 0 2 rfl (by decide) (by decide) rfl wd_172 (by decide +kernel) rfl (Or.inl rfl) (by first | assumption | omega) (fun h => by cases h) ?_
      refine jvret hF hr (by decide +kernel) ?_
      exact lMV (by first | (unfold rfW; rw [if_neg (by omega)]; exact upR_me mem) | (rw [show rfW L (mem 7 1) (mem 7 2) = mem 7 1 by (unfold rfW; rw [if_pos (by omega), if_neg (by omega)]), ← upR_s2 (w := mem 7 2), ← upR_me]) | (rw [show rfW L (mem 7 1) (mem 7 2) = L by (unfold rfW; rw [if_pos (by omega)]; split <;> omega), ← kL, ← upR_s2 (w := mem 7 2), ← upR_me]))
    · refine jblk hF [(.aload_n 0, 1)] (by decide +kernel) (pc' := 24) (lo' := [(0, (2, 7))]) (st' := [(2, 7), (2, 7)]) rfl ?_
      refine jget hF 6 1 0 1 rfl (by decide) (by decide) rfl wd_171 (by decide +kernel) (by first | assumption | omega) ?_
      refine jgoto hF (off := 10) 37 (by decide +kernel) (by decide) ?_
      refine jput hF 6 2 0 2 rfl (by decide) (by decide) rfl wd_172 (by decide +kernel) rfl (Or.inl rfl) (by first | assumption | omega) (fun h => by cases h) ?_
      refine jvret hF hr (by decide +kernel) ?_
      exact lMV (by first | (unfold rfW; rw [if_neg (by omega)]; exact upR_me mem) | (rw [show rfW L (mem 7 1) (mem 7 2) = mem 7 1 by (unfold rfW; rw [if_pos (by omega), if_neg (by omega)]), ← upR_s2 (w := mem 7 2), ← upR_me]) | (rw [show rfW L (mem 7 1) (mem 7 2) = L by (unfold rfW; rw [if_pos (by omega)]; split <;> omega), ← kL, ← upR_s2 (w := mem 7 2), ← upR_me]))
set_option maxHeartbeats 4000000 in
set_option maxRecDepth 100000 in
theorem c_X5_nextSign {l : Launch} {g : GP} (hG : GH g) {kd : Int → Nat} {ln : Int → Int} {mem : Int → Int → Int} {sz : Nat} (t : Int) (r : Int) (T : Int → Int) (L : Int) (hRD : RDX kd ln t r T L mem) (ha : mem 7 2 = -1 → 0 ≤ mem 7 1 ∧ mem 7 1 ≤ L + 1) (hw : InI (mem 7 2)) : MT l g yX5_nextSign cX5_nextSign 1 (some .int) 0 0 0 [(2, 7)] kd ln mem sz (pMR 0 (fun v mem' => (v = nsV T L (mem 7 1) (mem 7 2) ∧ mem' = upR mem (nsA T L (mem 7 1) (mem 7 2)) (mem 7 2))) kd ln sz) := by
  refine MT_of hG (by decide +kernel) (Nat.le_of_ble_eq_true rfl) (fun z hF hr hn => ?_)
  have ⟨r1, r2, r3, r4, r5, r6, r7, r8, r9, r10, r11, r12, r13⟩ := hRD
  have kt : kd (mem 7 0) = 12 := by rw [r2]; exact r3
  have kr : kd (mem (mem 7 0) 0) = 20 := by rw [r2, r5]; exact r7
  have kL : mem (mem 7 0) 1 = L := by rw [r2]; exact r6
  have kT : mem (mem (mem 7 0) 0) = T := by rw [r2, r5]; exact r9
  have kn : ln (mem (mem 7 0) 0) = ln r := by rw [r2, r5]
  have kg : 3 ≤ mem 7 0 ∧ 3 ≤ mem (mem 7 0) 0 := by rw [r2, r5]; omega
  refine jblk hF [(.aload_n 0, 1)] (by decide +kernel) (pc' := 1) (lo' := [(0, (2, 7))]) (st' := [(2, 7)]) rfl ?_
  refine jget hF 6 2 0 2 rfl (by decide) (by decide) rfl wd_172 (by decide +kernel) (by first | assumption | omega) ?_
  refine jblk hF [(.iconst (-1), 1)] (by decide +kernel) (pc' := 5) (lo' := [(0, (2, 7))]) (st' := [(0, (-1)), (0, mem 7 2)]) rfl ?_
  refine jicmp_eq hF (off := 6) 11 (by decide +kernel) (by decide) (by omega) (by decide) (fun h_1 => ?_) (fun h_1 => ?_)
  · have L_3 : ∀ (fu_4 : Nat)  (m : Int → Int → Int) (a : Int), (m = upR mem a (mem 7 2)) → (0 ≤ a ∧ a ≤ L + 1 ∧ skp T L a = skp T L (mem 7 1)) →  (L + 1 - a).toNat < fu_4 → J z g 1 0 0 (QM z g 0 0 (pMR 0 (fun v mem' => (v = nsV T L (mem 7 1) (mem 7 2) ∧ mem' = upR mem (nsA T L (mem 7 1) (mem 7 2)) (mem 7 2))) kd ln sz)) 11 [(0, (2, 7))] [] kd ln m sz := by
      intro fu_4
      induction fu_4 with
      | zero => intro m a _ _ hm; omega
      | succ fu_4 ih_2 =>
        intro m a hm2 hap hm
        have hRD2 : RDX kd ln t r T L m := by rw [hm2]; exact hRD.up
        have ⟨m1, m2, m3, m4, m5, m6, m7, m8, m9, m10, m11, m12, m13⟩ := hRD2
        have kt2 : kd (m 7 0) = 12 := by rw [m2]; exact m3
        have kr2 : kd (m (m 7 0) 0) = 20 := by rw [m2, m5]; exact m7
        have kL2 : m (m 7 0) 1 = L := by rw [m2]; exact m6
        have kT2 : m (m (m 7 0) 0) = T := by rw [m2, m5]; exact m9
        have kn2 : ln (m (m 7 0) 0) = ln r := by rw [m2, m5]
        have kg2 : 3 ≤ m 7 0 ∧ 3 ≤ m (m 7 0) 0 := by rw [m2, m5]; omega
        have ka : m 7 1 = a := by rw [hm2]; exact upR_1
        have kTa : m (m (m 7 0) 0) (m 7 1) = T a := by rw [kT2, ka]
        refine jblk hF [(.aload_n 0, 1)] (by decide +kernel) (pc' := 12) (lo' := [(0, (2, 7))]) (st' := [(2, 7)]) rfl ?_
        refine jget hF 6 1 0 1 rfl (by decide) (by decide) rfl wd_171 (by decide +kernel) (by first | assumption | omega) ?_
        refine jblk hF [(.aload_n 0, 1)] (by decide +kernel) (pc' := 16) (lo' := [(0, (2, 7))]) (st' := [(2, 7), (0, m 7 1)]) rfl ?_
        refine jget hF 6 0 2 0 rfl (by decide) (by decide) rfl wd_170 (by decide +kernel) (by first | assumption | omega) ?_
        refine jget hF 11 1 0 1 rfl (by decide) (by decide) rfl wd_150 (by decide +kernel) (by first | assumption | omega) ?_
        refine jicmp_ge hF (off := 33) 55 (by decide +kernel) (by decide) (by omega) (by omega) (fun h_5 => ?_) (fun h_5 => ?_)
        · have es : skp T L (mem 7 1) = a := by rw [← hap.2.2]; exact skp_stop (by omega)
          refine jblk hF [(.aload_n 0, 1)] (by decide +kernel) (pc' := 56) (lo' := [(0, (2, 7))]) (st' := [(2, 7)]) rfl ?_
          refine jget hF 6 1 0 1 rfl (by decide) (by decide) rfl wd_171 (by decide +kernel) (by first | assumption | omega) ?_
          refine jblk hF [(.aload_n 0, 1)] (by decide +kernel) (pc' := 60) (lo' := [(0, (2, 7))]) (st' := [(2, 7), (0, m 7 1)]) rfl ?_
          refine jget hF 6 0 2 0 rfl (by decide) (by decide) rfl wd_170 (by decide +kernel) (by first | assumption | omega) ?_
          refine jget hF 11 1 0 1 rfl (by decide) (by decide) rfl wd_150 (by decide +kernel) (by first | assumption | omega) ?_
          refine jicmp_ge hF (off := 18) 84 (by decide +kernel) (by decide) (by omega) (by omega) (fun h_6 => ?_) (fun h_6 => ?_)
          · refine jblk hF [(.iconst (-1), 1)] (by decide +kernel) (pc' := 85) (lo' := [(0, (2, 7))]) (st' := [(0, (-1))]) rfl ?_
            refine jiret hF hr (by decide +kernel) ?_
            exact lMR (by exact ⟨by unfold nsV; rw [if_pos (by omega), es]; first | (rw [chr_in (by omega)]; exact kTa) | (rw [chr_out (by omega)]; done), by unfold nsA; rw [if_pos (by omega), es]; exact hm2⟩)
          · have hTb2 := m13 a (by omega) (by omega)
            refine jblk hF [(.aload_n 0, 1)] (by decide +kernel) (pc' := 70) (lo' := [(0, (2, 7))]) (st' := [(2, 7)]) rfl ?_
            refine jget hF 6 0 2 0 rfl (by decide) (by decide) rfl wd_170 (by decide +kernel) (by first | assumption | omega) ?_
            refine jget hF 11 0 2 0 rfl (by decide) (by decide) rfl wd_148 (by decide +kernel) (by first | assumption | omega) ?_
            refine jblk hF [(.aload_n 0, 1)] (by decide +kernel) (pc' := 77) (lo' := [(0, (2, 7))]) (st' := [(2, 7), (2, m (m 7 0) 0)]) rfl ?_
            refine jget hF 6 1 0 1 rfl (by decide) (by decide) rfl wd_171 (by decide +kernel) (by first | assumption | omega) ?_
            refine jiald hF (by decide +kernel) (by first | assumption | omega) (by omega) (by omega) ?_
            refine jgoto hF (off := 4) 85 (by decide +kernel) (by decide) ?_
            refine jiret hF hr (by decide +kernel) ?_
            exact lMR (by exact ⟨by unfold nsV; rw [if_pos (by omega), es]; first | (rw [chr_in (by omega)]; exact kTa) | (rw [chr_out (by omega)]; done), by unfold nsA; rw [if_pos (by omega), es]; exact hm2⟩)
        · have hTb := m13 a (by omega) (by omega)
          refine jblk hF [(.aload_n 0, 1)] (by decide +kernel) (pc' := 26) (lo' := [(0, (2, 7))]) (st' := [(2, 7)]) rfl ?_
          refine jget hF 6 0 2 0 rfl (by decide) (by decide) rfl wd_170 (by decide +kernel) (by first | assumption | omega) ?_
          refine jget hF 11 0 2 0 rfl (by decide) (by decide) rfl wd_148 (by decide +kernel) (by first | assumption | omega) ?_
          refine jblk hF [(.aload_n 0, 1)] (by decide +kernel) (pc' := 33) (lo' := [(0, (2, 7))]) (st' := [(2, 7), (2, m (m 7 0) 0)]) rfl ?_
          refine jget hF 6 1 0 1 rfl (by decide) (by decide) rfl wd_171 (by decide +kernel) (by first | assumption | omega) ?_
          refine jiald hF (by decide +kernel) (by first | assumption | omega) (by omega) (by omega) ?_
          refine jblk hF [(.bipush 32, 2)] (by decide +kernel) (pc' := 39) (lo' := [(0, (2, 7))]) (st' := [(0, 32), (0, m (m (m 7 0) 0) (m 7 1))]) rfl ?_
          refine jicmp_ne hF (off := 16) 55 (by decide +kernel) (by decide) (by omega) (by decide) (fun h_7 => ?_) (fun h_7 => ?_)
          · have es : skp T L (mem 7 1) = a := by rw [← hap.2.2]; exact skp_stop (by omega)
            refine jblk hF [(.aload_n 0, 1)] (by decide +kernel) (pc' := 56) (lo' := [(0, (2, 7))]) (st' := [(2, 7)]) rfl ?_
            refine jget hF 6 1 0 1 rfl (by decide) (by decide) rfl wd_171 (by decide +kernel) (by first | assumption | omega) ?_
            refine jblk hF [(.aload_n 0, 1)] (by decide +kernel) (pc' := 60) (lo' := [(0, (2, 7))]) (st' := [(2, 7), (0, m 7 1)]) rfl ?_
            refine jget hF 6 0 2 0 rfl (by decide) (by decide) rfl wd_170 (by decide +kernel) (by first | assumption | omega) ?_
            refine jget hF 11 1 0 1 rfl (by decide) (by decide) rfl wd_150 (by decide +kernel) (by first | assumption | omega) ?_
            refine jicmp_ge hF (off := 18) 84 (by decide +kernel) (by decide) (by omega) (by omega) (fun h_8 => ?_) (fun h_8 => ?_)
            · refine jblk hF [(.iconst (-1), 1)] (by decide +kernel) (pc' := 85) (lo' := [(0, (2, 7))]) (st' := [(0, (-1))]) rfl ?_
              refine jiret hF hr (by decide +kernel) ?_
              exact lMR (by exact ⟨by unfold nsV; rw [if_pos (by omega), es]; first | (rw [chr_in (by omega)]; exact kTa) | (rw [chr_out (by omega)]; done), by unfold nsA; rw [if_pos (by omega), es]; exact hm2⟩)
            · have hTb2 := m13 a (by omega) (by omega)
              refine jblk hF [(.aload_n 0, 1)] (by decide +kernel) (pc' := 70) (lo' := [(0, (2, 7))]) (st' := [(2, 7)]) rfl ?_
              refine jget hF 6 0 2 0 rfl (by decide) (by decide) rfl wd_170 (by decide +kernel) (by first | assumption | omega) ?_
              refine jget hF 11 0 2 0 rfl (by decide) (by decide) rfl wd_148 (by decide +kernel) (by first | assumption | omega) ?_
              refine jblk hF [(.aload_n 0, 1)] (by decide +kernel) (pc' := 77) (lo' := [(0, (2, 7))]) (st' := [(2, 7), (2, m (m 7 0) 0)]) rfl ?_
              refine jget hF 6 1 0 1 rfl (by decide) (by decide) rfl wd_171 (by decide +kernel) (by first | assumption | omega) ?_
              refine jiald hF (by decide +kernel) (by first | assumption | omega) (by omega) (by omega) ?_
              refine jgoto hF (off := 4) 85 (by decide +kernel) (by decide) ?_
              refine jiret hF hr (by decide +kernel) ?_
              exact lMR (by exact ⟨by unfold nsV; rw [if_pos (by omega), es]; first | (rw [chr_in (by omega)]; exact kTa) | (rw [chr_out (by omega)]; done), by unfold nsA; rw [if_pos (by omega), es]; exact hm2⟩)
          · refine jblk hF [(.aload_n 0, 1), (.dup, 1)] (by decide +kernel) (pc' := 44) (lo' := [(0, (2, 7))]) (st' := [(2, 7), (2, 7)]) rfl ?_
            refine jget hF 6 1 0 1 rfl (by decide) (by decide) rfl wd_171 (by decide +kernel) (by first | assumption | omega) ?_
            refine jblk hF [(.iconst 1, 1), (.iadd, 1)] (by decide +kernel) (pc' := 49) (lo' := [(0, (2, 7))]) (st' := [(0, (m 7 1) + 1), (2, 7)]) rfl ?_
            refine jput hF 6 1 0 1 rfl (by decide) (by decide) rfl wd_171 (by decide +kernel) rfl (Or.inl rfl) (by first | assumption | omega) (fun h => by cases h) ?_
            refine jgoto hF (off := (-41)) 11 (by decide +kernel) (by decide) ?_
            refine jsub [0] rfl ?_
            refine ih_2 (set2 m 7 1 ((m 7 1) + 1)) (a + 1) ?_ ?_ ?_
            · (rw [ka, hm2, upR_s1])
            · exact ⟨by omega, by omega, (skp_step (by omega) (by omega)).symm.trans hap.2.2⟩
            · omega
    refine jsub [0] rfl ?_
    refine L_3 _ mem (mem 7 1) ?_ ?_ (Nat.lt_succ_self _)
    · exact upR_me mem
    · exact ⟨by omega, by omega, rfl⟩
  · refine jblk hF [(.bipush (-2), 2)] (by decide +kernel) (pc' := 10) (lo' := [(0, (2, 7))]) (st' := [(0, (-2))]) rfl ?_
    refine jiret hF hr (by decide +kernel) ?_
    exact lMR (by exact ⟨by unfold nsV; rw [if_neg (by omega)], by unfold nsA; rw [if_neg (by omega)]; exact upR_me mem⟩)
set_option maxHeartbeats 4000000 in
set_option maxRecDepth 100000 in
theorem c_X5_accepts {l : Launch} {g : GP} (hG : GH g) {kd : Int → Nat} {ln : Int → Int} {mem : Int → Int → Int} {sz : Nat} (k : Int) (t : Int) (r : Int) (T : Int → Int) (L : Int) (hRD : RDX kd ln t r T L mem) (ha : mem 7 2 = -1 → 0 ≤ mem 7 1 ∧ mem 7 1 ≤ L + 1) (hw : InI (mem 7 2)) (h_k : InI k) : MT l g yX5_accepts cX5_accepts 2 (some .boolean) 1 0 0 [(2, 7), (0, k)] kd ln mem sz (pMB (fun c mem' => ((c ↔ nsV T L (mem 7 1) (mem 7 2) = k) ∧ mem' = (if nsV T L (mem 7 1) (mem 7 2) = k then upR mem (nsA T L (mem 7 1) (mem 7 2) + 1) (mem 7 2) else upR mem (nsA T L (mem 7 1) (mem 7 2)) (mem 7 2)))) kd ln sz) := by
  refine MT_of hG (by decide +kernel) (Nat.le_of_ble_eq_true rfl) (fun z hF hr hn => ?_)
  have ⟨r1, r2, r3, r4, r5, r6, r7, r8, r9, r10, r11, r12, r13⟩ := hRD
  refine jblk hF [(.aload_n 0, 1)] (by decide +kernel) (pc' := 1) (lo' := [(0, (2, 7)), (1, (0, k))]) (st' := [(2, 7)]) rfl ?_
  refine jcallV hF (c_X5_nextSign hG (by exact t) (by exact r) (by exact T) (by exact L) (by assumption) (by omega) (by omega)) MW_X5_nextSign 6 (by decide) (by first | assumption | omega) wd_580 wd_582 wd_p6 (by decide +kernel) [] rfl rfl (by decide) (Nat.le_of_ble_eq_true rfl) (by decide) (kMR (fun v_3 m_1 h_2 => ?_))
  have hq := h_2
  have hRD3 : RDX kd ln t r T L m_1 := by rw [hq.2]; exact hRD.up
  have e1 : m_1 7 1 = nsA T L (mem 7 1) (mem 7 2) := by rw [hq.2]; exact upR_1
  have e2 : m_1 7 2 = mem 7 2 := by rw [hq.2]; exact upR_2
  have hnv := nsV_bd hRD ha
  have hna := nsA_bd (T := T) ha
  refine jblk hF [(.iload_n 1, 1)] (by decide +kernel) (pc' := 5) (lo' := [(0, (2, 7)), (1, (0, k))]) (st' := [(0, k), (0, v_3)]) rfl ?_
  refine jicmp_eq hF (off := 5) 10 (by decide +kernel) (by decide) (by omega) (by omega) (fun h_4 => ?_) (fun h_4 => ?_)
  · refine jblk hF [(.aload_n 0, 1), (.dup, 1)] (by decide +kernel) (pc' := 12) (lo' := [(0, (2, 7)), (1, (0, k))]) (st' := [(2, 7), (2, 7)]) rfl ?_
    refine jget hF 6 1 0 1 rfl (by decide) (by decide) rfl wd_171 (by decide +kernel) (by first | assumption | omega) ?_
    refine jblk hF [(.iconst 1, 1), (.iadd, 1)] (by decide +kernel) (pc' := 17) (lo' := [(0, (2, 7)), (1, (0, k))]) (st' := [(0, (m_1 7 1) + 1), (2, 7)]) rfl ?_
    refine jput hF 6 1 0 1 rfl (by decide) (by decide) rfl wd_171 (by decide +kernel) rfl (Or.inl rfl) (by first | assumption | omega) (fun h => by cases h) ?_
    refine jblk hF [(.iconst 1, 1)] (by decide +kernel) (pc' := 21) (lo' := [(0, (2, 7)), (1, (0, k))]) (st' := [(0, 1)]) rfl ?_
    refine jzret hF hr (by omega) (by decide +kernel) ?_
    exact lMB1 (by first | exact ⟨⟨fun h => h.elim, fun h => absurd h (by omega)⟩, by rw [if_neg (by omega)]; exact hq.2⟩ | exact ⟨⟨fun _ => by omega, fun _ => trivial⟩, by rw [if_pos (by omega), e1, hq.2, upR_s1]⟩)
  · refine jblk hF [(.iconst 0, 1)] (by decide +kernel) (pc' := 9) (lo' := [(0, (2, 7)), (1, (0, k))]) (st' := [(0, 0)]) rfl ?_
    refine jzret hF hr (by omega) (by decide +kernel) ?_
    exact lMB0 (by first | exact ⟨⟨fun h => h.elim, fun h => absurd h (by omega)⟩, by rw [if_neg (by omega)]; exact hq.2⟩ | exact ⟨⟨fun _ => by omega, fun _ => trivial⟩, by rw [if_pos (by omega), e1, hq.2, upR_s1]⟩)
set_option maxHeartbeats 4000000 in
set_option maxRecDepth 100000 in
theorem c_X5_demand {l : Launch} {g : GP} (hG : GH g) {kd : Int → Nat} {ln : Int → Int} {mem : Int → Int → Int} {sz : Nat} (k : Int) (t : Int) (r : Int) (T : Int → Int) (L : Int) (hRD : RDX kd ln t r T L mem) (ha : mem 7 2 = -1 → 0 ≤ mem 7 1 ∧ mem 7 1 ≤ L + 1) (hw : InI (mem 7 2)) (h_k : InI k) : MT l g yX5_demand cX5_demand 2 none 1 0 0 [(2, 7), (0, k)] kd ln mem sz (pMV (fun mem' => (mem' = (if nsV T L (mem 7 1) (mem 7 2) = k then upR mem (nsA T L (mem 7 1) (mem 7 2) + 1) (mem 7 2) else upR mem (nsA T L (mem 7 1) (mem 7 2) + 1) (rfW L (nsA T L (mem 7 1) (mem 7 2)) (mem 7 2))))) kd ln sz) := by
  refine MT_of hG (by decide +kernel) (Nat.le_of_ble_eq_true rfl) (fun z hF hr hn => ?_)
  have ⟨r1, r2, r3, r4, r5, r6, r7, r8, r9, r10, r11, r12, r13⟩ := hRD
  refine jblk hF [(.aload_n 0, 1)] (by decide +kernel) (pc' := 1) (lo' := [(0, (2, 7)), (1, (0, k))]) (st' := [(2, 7)]) rfl ?_
  refine jcallV hF (c_X5_nextSign hG (by exact t) (by exact r) (by exact T) (by exact L) (by assumption) (by omega) (by omega)) MW_X5_nextSign 6 (by decide) (by first | assumption | omega) wd_580 wd_582 wd_p6 (by decide +kernel) [] rfl rfl (by decide) (Nat.le_of_ble_eq_true rfl) (by decide) (kMR (fun v_3 m_1 h_2 => ?_))
  have hq := h_2
  have hRD3 : RDX kd ln t r T L m_1 := by rw [hq.2]; exact hRD.up
  have e1 : m_1 7 1 = nsA T L (mem 7 1) (mem 7 2) := by rw [hq.2]; exact upR_1
  have e2 : m_1 7 2 = mem 7 2 := by rw [hq.2]; exact upR_2
  have hnv := nsV_bd hRD ha
  have hna := nsA_bd (T := T) ha
  refine jblk hF [(.iload_n 1, 1)] (by decide +kernel) (pc' := 5) (lo' := [(0, (2, 7)), (1, (0, k))]) (st' := [(0, k), (0, v_3)]) rfl ?_
  refine jicmp_eq hF (off := 7) 12 (by decide +kernel) (by decide) (by omega) (by omega) (fun h_4 => ?_) (fun h_4 => ?_)
  · refine jblk hF [(.aload_n 0, 1), (.dup, 1)] (by decide +kernel) (pc' := 14) (lo' := [(0, (2, 7)), (1, (0, k))]) (st' := [(2, 7), (2, 7)]) rfl ?_
    refine jget hF 6 1 0 1 rfl (by decide) (by decide) rfl wd_171 (by decide +kernel) (by first | assumption | omega) ?_
    refine jblk hF [(.iconst 1, 1), (.iadd, 1)] (by decide +kernel) (pc' := 19) (lo' := [(0, (2, 7)), (1, (0, k))]) (st' := [(0, (m_1 7 1) + 1), (2, 7)]) rfl ?_
    refine jput hF 6 1 0 1 rfl (by decide) (by decide) rfl wd_171 (by decide +kernel) rfl (Or.inl rfl) (by first | assumption | omega) (fun h => by cases h) ?_
    refine jvret hF hr (by decide +kernel) ?_
    exact lMV (by first | (rw [if_pos (by omega), e1, hq.2, upR_s1]; done) | (rw [if_neg (by omega), e5, hq5, upR_s1, e1, e2, hq.2, upR_up]; done))
  · refine jblk hF [(.aload_n 0, 1)] (by decide +kernel) (pc' := 9) (lo' := [(0, (2, 7)), (1, (0, k))]) (st' := [(2, 7)]) rfl ?_
    refine jcallV hF (c_X5_refuse hG (by exact t) (by exact r) (by exact T) (by exact L) (by assumption) (by omega) (by omega)) MW_X5_refuse 6 (by decide) (by first | assumption | omega) wd_587 wd_589 wd_p7 (by decide +kernel) [] rfl rfl (by decide) (Nat.le_of_ble_eq_true rfl) (by decide) (kMV (fun m_5 h_6 => ?_))
    have hq5 := h_6
    have e5 : m_5 7 1 = nsA T L (mem 7 1) (mem 7 2) := by rw [hq5, e1]; exact upR_1
    refine jblk hF [(.aload_n 0, 1), (.dup, 1)] (by decide +kernel) (pc' := 14) (lo' := [(0, (2, 7)), (1, (0, k))]) (st' := [(2, 7), (2, 7)]) rfl ?_
    refine jget hF 6 1 0 1 rfl (by decide) (by decide) rfl wd_171 (by decide +kernel) (by first | assumption | omega) ?_
    refine jblk hF [(.iconst 1, 1), (.iadd, 1)] (by decide +kernel) (pc' := 19) (lo' := [(0, (2, 7)), (1, (0, k))]) (st' := [(0, (m_5 7 1) + 1), (2, 7)]) rfl ?_
    refine jput hF 6 1 0 1 rfl (by decide) (by decide) rfl wd_171 (by decide +kernel) rfl (Or.inl rfl) (by first | assumption | omega) (fun h => by cases h) ?_
    refine jvret hF hr (by decide +kernel) ?_
    exact lMV (by first | (rw [if_pos (by omega), e1, hq.2, upR_s1]; done) | (rw [if_neg (by omega), e5, hq5, upR_s1, e1, e2, hq.2, upR_up]; done))
end
