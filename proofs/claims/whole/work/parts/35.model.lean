section
def SETM (mem mm : Int → Int → Int) (p : Int) : Prop := ∃ m3 : Int → Int → Int, (∀ a j : Int, (a < 59 ∨ 62 < a) → ¬ (a = 82 ∧ j = p) → ¬ (a = 83 ∧ 40 * p ≤ j ∧ j < 40 * p + mem 47 p) → m3 a j = mem a j) ∧ m3 82 p = 1 ∧ (∀ n : Int, 0 ≤ n → n < mem 47 p → m3 83 (40 * p + n) = keptV mem p (numQ mem p n (knw mem))) ∧ mm = set2 (cmM p (mem 35 72).toNat m3).2 35 72 (cmM p (mem 35 72).toNat m3).1
def F83 (mem mm : Int → Int → Int) (p : Int) : Prop := ∀ a j : Int, (a < 59 ∨ 62 < a) → ¬ (a = 83 ∧ 40 * p ≤ j ∧ j < 40 * p + mem 47 p) → mm a j = mem a j
theorem F83.e {mem mm : Int → Int → Int} {p : Int} (h : F83 mem mm p) : EQ69 mem mm := fun a j _ h1 h2 h3 h4 h5 => h a j (by omega) (by omega)
def pfK (mem : Int → Int → Int) (p : Int) : Nat → Int
  | 0 => 0
  | t + 1 => pfK mem p t + (if wL (prtV mem p (mem 47 p - 1 - t)) = wL (keptV mem p (numQ mem p (mem 47 p - 1 - t) (knw mem))) then 0 else 1)
def pfF (mem : Int → Int → Int) (p : Int) : Nat → Int
  | 0 => -1
  | t + 1 => if wL (prtV mem p (mem 47 p - 1 - t)) = wL (keptV mem p (numQ mem p (mem 47 p - 1 - t) (knw mem))) then pfF mem p t else mem 47 p - 1 - t
theorem pf_s {mem : Int → Int → Int} {p n : Int} (h0 : 0 ≤ n) (h1 : n < mem 47 p) : pfK mem p (mem 47 p - 1 - (n - 1)).toNat = pfK mem p (mem 47 p - 1 - n).toNat + (if wL (prtV mem p n) = wL (keptV mem p (numQ mem p n (knw mem))) then 0 else 1) ∧ pfF mem p (mem 47 p - 1 - (n - 1)).toNat = (if wL (prtV mem p n) = wL (keptV mem p (numQ mem p n (knw mem))) then pfF mem p (mem 47 p - 1 - n).toNat else n) := by
  rw [show (mem 47 p - 1 - (n - 1)).toNat = (mem 47 p - 1 - n).toNat + 1 by omega, pfK, pfF, show mem 47 p - 1 - (((mem 47 p - 1 - n).toNat : Nat) : Int) = n by omega]
  exact ⟨rfl, rfl⟩
theorem pfK_bd (mem : Int → Int → Int) (p : Int) : ∀ k : Nat, 0 ≤ pfK mem p k ∧ pfK mem p k ≤ k := by
  intro k
  induction k with
  | zero => simp [pfK]
  | succ k ih => unfold pfK; split <;> omega
def CPM (mem mm : Int → Int → Int) (p : Int) : Prop := (∀ a j : Int, ¬ (a = 88 ∧ j = mem 35 79) → ¬ (a = 89 ∧ 40 * mem 35 79 ≤ j ∧ j < 40 * mem 35 79 + mem 47 p) → ¬ (a = 35 ∧ j = 79) → mm a j = mem a j) ∧ mm 88 (mem 35 79) = p ∧ mm 35 79 = mem 35 79 + 1 ∧ ∀ n : Int, 0 ≤ n → n < mem 47 p → mm 89 (40 * mem 35 79 + n) = prtV mem p n
set_option maxHeartbeats 4000000 in
set_option maxRecDepth 100000 in
theorem c_X12_set {l : Launch} {g : GP} (hG : GH g) {kd : Int → Nat} {ln : Int → Int} {mem : Int → Int → Int} {sz : Nat} (hS : SK kd ln) (hR : SR mem) (p : Int) (h_p : InI p) (hPS : PGS mem) (hSL : SLS mem) (h0 : 0 ≤ mem 35 0 ∧ mem 35 0 ≤ 1000) (hSN : -1 ≤ mem 35 2 ∧ mem 35 2 ≤ mem 35 0) (hIS : IST mem) (hPR : PRS mem) : MT l g yX12_set cX12_set 4 (some .boolean) 6 0 0 [(2, 35), (0, p)] kd ln mem sz (pMB (fun c mem' => SR mem' ∧ ((c ↔ isPg mem p) ∧ (¬ isPg mem p → mem' = mem) ∧ (isPg mem p → SETM mem mem' p))) kd ln sz) := by
  refine MT_of hG (by decide +kernel) (Nat.le_of_ble_eq_true rfl) (fun z hF hr hn => ?_)
  refine jblk hF [(.aload_n 0, 1), (.iload_n 1, 1)] (by decide +kernel) (pc' := 2) (lo' := [(0, (2, 35)), (1, (0, p))]) (st' := [(0, p), (2, 35)]) rfl ?_
  refine jcallV hF (c_X12_isPage hG hS hR p (by omega) (by omega)) MW_X12_isPage 13 (by decide) (by exact hS.k35) wd_1930 wd_1932 wd_p71 (by decide +kernel) [] rfl rfl (by decide) (Nat.le_of_ble_eq_true rfl) (by decide) (kB (fun h_1 => ?_) (fun h_1 => ?_))
  · refine jif_ne hF (off := 5) 10 (by decide +kernel) (by decide) (by decide) (fun _ => ?_) (fun h => absurd h (by decide))
    have hp := hPS.2.2 p (by omega) (by omega)
    refine jblk hF [(.aload_n 0, 1), (.iload_n 1, 1), (.aload_n 0, 1)] (by decide +kernel) (pc' := 13) (lo' := [(0, (2, 35)), (1, (0, p))]) (st' := [(2, 35), (0, p), (2, 35)]) rfl ?_
    refine jcallV hF (c_X12_known hG hS hR (by omega)) MW_X12_known 13 (by decide) (by exact hS.k35) wd_2157 wd_1751 wd_1752 (by decide +kernel) [(0, p), (2, 35)] rfl rfl (by decide) (Nat.le_of_ble_eq_true rfl) (by decide) (kV ?_)
    refine jcallV hF (c_X12_makeAs hG hS hR p (if mem 35 2 = -1 then mem 35 0 else mem 35 2) (by first | exact hE1.fPG hp | (first | omega | exact hE.fPG hp | exact (EQ36.f _ _).fPG hp)) (by first | exact hE1.fSLS e45 e33 e00 hSL | (first | exact hSL | exact (EQ36.f _ _).fSLS (s2_k (by decide)) (s2_k (by decide)) (s2_k (by decide)) hSL)) (by first | (rw [e33]; omega) | (first | omega | (rw [show (set2 mem 35 1 0) 35 33 = mem 35 33 from s2_k (by decide)]; omega) | (rw [show (set2 mem 35 1 0) 35 0 = mem 35 0 from s2_k (by decide)]; omega))) (by omega) (by first | (rw [e00]; omega) | (first | omega | (rw [show (set2 mem 35 1 0) 35 33 = mem 35 33 from s2_k (by decide)]; omega) | (rw [show (set2 mem 35 1 0) 35 0 = mem 35 0 from s2_k (by decide)]; omega)))) MW_X12_makeAs 13 (by decide) (by exact hS.k35) wd_2008 wd_2010 wd_p85 (by decide +kernel) [] rfl rfl (by decide) (Nat.le_of_ble_eq_true rfl) (by decide) (kMV (fun m_3 h_4 => ?_))
    obtain ⟨hR_m_3, h_4⟩ := h_4
    have hK := h_4
    have e472 : m_3 47 p = mem 47 p := hK.1 47 p (by decide) (by decide) (by decide) (by decide)
    refine jblk hF [(.iconst 0, 1), (.istore_n 2, 1)] (by decide +kernel) (pc' := 21) (lo' := [(2, (0, 0)), (0, (2, 35)), (1, (0, p))]) (st' := []) rfl ?_
    have L_6 : ∀ (fu_7 : Nat) (n : Int) (m1 : Int → Int → Int), (0 ≤ n ∧ n ≤ mem 47 p) → (SR m1) → (F83 mem m1 p) → (∀ j : Int, 0 ≤ j → j < mem 47 p → m1 61 j = numQ mem p j (knw mem)) → (∀ j : Int, 0 ≤ j → j < n → m1 83 (40 * p + j) = keptV mem p (numQ mem p j (knw mem))) →  (mem 47 p - n).toNat < fu_7 → J z g 4 0 0 (QM z g 0 0 (pMB (fun c mem' => SR mem' ∧ ((c ↔ isPg mem p) ∧ (¬ isPg mem p → mem' = mem) ∧ (isPg mem p → SETM mem mem' p))) kd ln sz)) 21 [(0, (2, 35)), (1, (0, p)), (2, (0, n))] [] kd ln m1 sz := by
      intro fu_7
      induction fu_7 with
      | zero => intro n m1 _ _ _ _ _ hm; omega
      | succ fu_7 ih_5 =>
        intro n m1 hn1 hR_m1 hf1 h61 hpl hm
        have hE : EQ69 mem m1 := hf1.e
        have e47 := congrFun (hE.at 47 (by decide)) p
        refine jblk hF [(.iload_n 2, 1), (.aload_n 0, 1)] (by decide +kernel) (pc' := 23) (lo' := [(0, (2, 35)), (1, (0, p)), (2, (0, n))]) (st' := [(2, 35), (0, n)]) rfl ?_
        refine jget hF 13 22 2 22 rfl (by decide) (by decide) rfl wd_1485 (by decide +kernel) (by exact hS.k35) ?_
        rw [SR.r22 hR_m1]
        refine jblk hF [(.iload_n 1, 1)] (by decide +kernel) (pc' := 27) (lo' := [(0, (2, 35)), (1, (0, p)), (2, (0, n))]) (st' := [(0, p), (2, 47), (0, n)]) rfl ?_
        refine jiald hF (by decide +kernel) (by exact hS.k47) (by omega) (by have := hS.l47; omega) ?_
        refine jicmp_ge hF (off := 31) 59 (by decide +kernel) (by decide) (by omega) (by omega) (fun h_8 => ?_) (fun h_8 => ?_)
        · refine jblk hF [(.aload_n 0, 1)] (by decide +kernel) (pc' := 60) (lo' := [(0, (2, 35)), (1, (0, p)), (2, (0, n))]) (st' := [(2, 35)]) rfl ?_
          refine jget hF 13 66 2 66 rfl (by decide) (by decide) rfl wd_1529 (by decide +kernel) (by exact hS.k35) ?_
          rw [SR.r66 hR_m1]
          refine jblk hF [(.iload_n 1, 1), (.iconst 1, 1)] (by decide +kernel) (pc' := 65) (lo' := [(0, (2, 35)), (1, (0, p)), (2, (0, n))]) (st' := [(0, 1), (0, p), (2, 82)]) rfl ?_
          refine jzast hF (by decide +kernel) (by decide) (by exact hS.k82) (by omega) (by have := hS.l82; omega) (by omega) ?_
          obtain ⟨M0, hM0⟩ : ∃ M0 : Int → Int → Int, M0 = (set2 m1 82 p 1) := ⟨_, rfl⟩
          have hfM : ∀ a j : Int, (a < 59 ∨ 62 < a) → ¬ (a = 82 ∧ j = p) → ¬ (a = 83 ∧ 40 * p ≤ j ∧ j < 40 * p + mem 47 p) → M0 a j = mem a j := fun a j q1 q2 q3 => by rw [hM0]; exact (if_neg q2).trans (hf1 a j q1 q3)
          refine jblk hF [(.iconst 0, 1), (.istore_n 2, 1), (.iconst 0, 1), (.istore_n 3, 1)] (by decide +kernel) (pc' := 70) (lo' := [(3, (0, 0)), (2, (0, 0)), (0, (2, 35)), (1, (0, p))]) (st' := []) rfl ?_
          have L_10 : ∀ (fu_11 : Nat) (k : Int) (i : Int) (m2 : Int → Int → Int), (0 ≤ i ∧ i ≤ mem 35 72) → (SR m2) → (k = (cmM p i.toNat M0).1 ∧ m2 = (cmM p i.toNat M0).2) →  (mem 35 72 - i).toNat < fu_11 → J z g 4 0 0 (QM z g 0 0 (pMB (fun c mem' => SR mem' ∧ ((c ↔ isPg mem p) ∧ (¬ isPg mem p → mem' = mem) ∧ (isPg mem p → SETM mem mem' p))) kd ln sz)) 70 [(0, (2, 35)), (1, (0, p)), (2, (0, k)), (3, (0, i))] [] kd ln m2 sz := by
            intro fu_11
            induction fu_11 with
            | zero => intro k i m2 _ _ _ hm; omega
            | succ fu_11 ih_9 =>
              intro k i m2 hi hR_m2 hcm hm2
              have hcf := cmM_fr p M0 i.toNat
              have e72 : m2 35 72 = mem 35 72 := by rw [hcm.2, hcf.2.2 35 72 (by omega)]; exact hfM 35 72 (by omega) (by omega) (by omega)
              refine jblk hF [(.iload_n 3, 1), (.aload_n 0, 1)] (by decide +kernel) (pc' := 72) (lo' := [(0, (2, 35)), (1, (0, p)), (2, (0, k)), (3, (0, i))]) (st' := [(2, 35), (0, i)]) rfl ?_
              refine jget hF 13 72 0 72 rfl (by decide) (by decide) rfl wd_1535 (by decide +kernel) (by exact hS.k35) ?_
              refine jicmp_ge hF (off := 70) 145 (by decide +kernel) (by decide) (by omega) (by omega) (fun h_12 => ?_) (fun h_12 => ?_)
              · refine jblk hF [(.aload_n 0, 1), (.iload_n 2, 1)] (by decide +kernel) (pc' := 147) (lo' := [(0, (2, 35)), (1, (0, p)), (2, (0, k)), (3, (0, i))]) (st' := [(0, k), (2, 35)]) rfl ?_
                refine jput hF 13 72 0 72 rfl (by decide) (by decide) rfl wd_1535 (by decide +kernel) rfl (Or.inl rfl) (by exact hS.k35) (fun h => by cases h) ?_
                refine jblk hF [(.iconst 1, 1)] (by decide +kernel) (pc' := 151) (lo' := [(0, (2, 35)), (1, (0, p)), (2, (0, k)), (3, (0, i))]) (st' := [(0, 1)]) rfl ?_
                refine jzret hF hr (by omega) (by decide +kernel) ?_
                exact lMB1 ⟨(SR.s hR_m2 (Or.inr (by decide))), by exact ⟨⟨fun _ => by omega, fun _ => trivial⟩, fun h => absurd (by omega) h, fun _ => ⟨M0, hfM, by rw [hM0, s2_s], fun j q1 q2 => by rw [hM0, s2_a (by decide)]; exact hpl j q1 (by omega), by rw [hcm.1, hcm.2, show i.toNat = (mem 35 72).toNat by omega]⟩⟩⟩
              · have hr9 := hPR.2.2 i (by omega) (by omega)
                have e84 : m2 84 i = mem 84 i := by rw [hcm.2, hcf.2.2 84 i (by omega)]; exact hfM 84 i (by omega) (by omega) (by omega)
                refine jblk hF [(.aload_n 0, 1)] (by decide +kernel) (pc' := 79) (lo' := [(0, (2, 35)), (1, (0, p)), (2, (0, k)), (3, (0, i))]) (st' := [(2, 35)]) rfl ?_
                refine jget hF 13 68 2 68 rfl (by decide) (by decide) rfl wd_1531 (by decide +kernel) (by exact hS.k35) ?_
                rw [SR.r68 hR_m2]
                refine jblk hF [(.iload_n 3, 1)] (by decide +kernel) (pc' := 83) (lo' := [(0, (2, 35)), (1, (0, p)), (2, (0, k)), (3, (0, i))]) (st' := [(0, i), (2, 84)]) rfl ?_
                refine jiald hF (by decide +kernel) (by exact hS.k84) (by omega) (by have := hS.l84; omega) ?_
                refine jblk hF [(.iload_n 1, 1)] (by decide +kernel) (pc' := 85) (lo' := [(0, (2, 35)), (1, (0, p)), (2, (0, k)), (3, (0, i))]) (st' := [(0, p), (0, m2 84 i)]) rfl ?_
                refine jicmp_eq hF (off := 54) 139 (by decide +kernel) (by decide) (by omega) (by omega) (fun h_13 => ?_) (fun h_13 => ?_)
                · refine jblk hF [(.iinc 3 1, 3)] (by decide +kernel) (pc' := 142) (lo' := [(3, (0, i + 1)), (0, (2, 35)), (1, (0, p)), (2, (0, k))]) (st' := []) rfl ?_
                  refine jgoto hF (off := (-72)) 70 (by decide +kernel) (by decide) ?_
                  refine jsub [1, 2, 3, 0] rfl ?_
                  refine ih_9 k (i + 1) m2 ?_ ?_ ?_ ?_
                  · omega
                  · exact hR_m2
                  · rw [cmM_s (by omega), ← hcm.1, ← hcm.2]; first | (rw [if_pos (by omega)]; exact hcm.elim fun a b => ⟨by omega, by assumption⟩) | (rw [if_pos (by omega)]; exact ⟨hcm.1, hcm.2⟩) | (rw [if_neg (by omega)]; exact ⟨rfl, rfl⟩)
                  · omega
                · refine jblk hF [(.aload_n 0, 1)] (by decide +kernel) (pc' := 89) (lo' := [(0, (2, 35)), (1, (0, p)), (2, (0, k)), (3, (0, i))]) (st' := [(2, 35)]) rfl ?_
                  refine jget hF 13 68 2 68 rfl (by decide) (by decide) rfl wd_1531 (by decide +kernel) (by exact hS.k35) ?_
                  rw [SR.r68 hR_m2]
                  refine jblk hF [(.iload_n 2, 1), (.aload_n 0, 1)] (by decide +kernel) (pc' := 94) (lo' := [(0, (2, 35)), (1, (0, p)), (2, (0, k)), (3, (0, i))]) (st' := [(2, 35), (0, k), (2, 84)]) rfl ?_
                  refine jget hF 13 68 2 68 rfl (by decide) (by decide) rfl wd_1531 (by decide +kernel) (by exact hS.k35) ?_
                  rw [SR.r68 hR_m2]
                  refine jblk hF [(.iload_n 3, 1)] (by decide +kernel) (pc' := 98) (lo' := [(0, (2, 35)), (1, (0, p)), (2, (0, k)), (3, (0, i))]) (st' := [(0, i), (2, 84), (0, k), (2, 84)]) rfl ?_
                  refine jiald hF (by decide +kernel) (by exact hS.k84) (by omega) (by have := hS.l84; omega) ?_
                  refine jiast hF (by decide +kernel) (by decide) (by exact hS.k84) (by omega) (by have := hS.l84; omega) ?_
                  refine jblk hF [(.aload_n 0, 1)] (by decide +kernel) (pc' := 101) (lo' := [(0, (2, 35)), (1, (0, p)), (2, (0, k)), (3, (0, i))]) (st' := [(2, 35)]) rfl ?_
                  refine jget hF 13 69 2 69 rfl (by decide) (by decide) rfl wd_1532 (by decide +kernel) (by exact hS.k35) ?_
                  rw [SR.r69 (SR.s hR_m2 (Or.inl (by decide)))]
                  refine jblk hF [(.iload_n 2, 1), (.aload_n 0, 1)] (by decide +kernel) (pc' := 106) (lo' := [(0, (2, 35)), (1, (0, p)), (2, (0, k)), (3, (0, i))]) (st' := [(2, 35), (0, k), (2, 85)]) rfl ?_
                  refine jget hF 13 69 2 69 rfl (by decide) (by decide) rfl wd_1532 (by decide +kernel) (by exact hS.k35) ?_
                  rw [SR.r69 (SR.s hR_m2 (Or.inl (by decide)))]
                  refine jblk hF [(.iload_n 3, 1)] (by decide +kernel) (pc' := 110) (lo' := [(0, (2, 35)), (1, (0, p)), (2, (0, k)), (3, (0, i))]) (st' := [(0, i), (2, 85), (0, k), (2, 85)]) rfl ?_
                  refine jiald hF (by decide +kernel) (by exact hS.k85) (by omega) (by have := hS.l85; omega) ?_
                  rw [show (set2 m2 84 k (m2 84 i)) 85 i = m2 85 i from (s2_a (by decide))]
                  refine jiast hF (by decide +kernel) (by decide) (by exact hS.k85) (by omega) (by have := hS.l85; omega) ?_
                  refine jblk hF [(.aload_n 0, 1)] (by decide +kernel) (pc' := 113) (lo' := [(0, (2, 35)), (1, (0, p)), (2, (0, k)), (3, (0, i))]) (st' := [(2, 35)]) rfl ?_
                  refine jget hF 13 70 2 70 rfl (by decide) (by decide) rfl wd_1533 (by decide +kernel) (by exact hS.k35) ?_
                  rw [SR.r70 (SR.s (SR.s hR_m2 (Or.inl (by decide))) (Or.inl (by decide)))]
                  refine jblk hF [(.iload_n 2, 1), (.aload_n 0, 1)] (by decide +kernel) (pc' := 118) (lo' := [(0, (2, 35)), (1, (0, p)), (2, (0, k)), (3, (0, i))]) (st' := [(2, 35), (0, k), (2, 86)]) rfl ?_
                  refine jget hF 13 70 2 70 rfl (by decide) (by decide) rfl wd_1533 (by decide +kernel) (by exact hS.k35) ?_
                  rw [SR.r70 (SR.s (SR.s hR_m2 (Or.inl (by decide))) (Or.inl (by decide)))]
                  refine jblk hF [(.iload_n 3, 1)] (by decide +kernel) (pc' := 122) (lo' := [(0, (2, 35)), (1, (0, p)), (2, (0, k)), (3, (0, i))]) (st' := [(0, i), (2, 86), (0, k), (2, 86)]) rfl ?_
                  refine jiald hF (by decide +kernel) (by exact hS.k86) (by omega) (by have := hS.l86; omega) ?_
                  rw [show (set2 (set2 m2 84 k (m2 84 i)) 85 k (m2 85 i)) 86 i = m2 86 i from ((s2_a (by decide)).trans (s2_a (by decide)))]
                  refine jiast hF (by decide +kernel) (by decide) (by exact hS.k86) (by omega) (by have := hS.l86; omega) ?_
                  refine jblk hF [(.aload_n 0, 1)] (by decide +kernel) (pc' := 125) (lo' := [(0, (2, 35)), (1, (0, p)), (2, (0, k)), (3, (0, i))]) (st' := [(2, 35)]) rfl ?_
                  refine jget hF 13 71 2 71 rfl (by decide) (by decide) rfl wd_1534 (by decide +kernel) (by exact hS.k35) ?_
                  rw [SR.r71 (SR.s (SR.s (SR.s hR_m2 (Or.inl (by decide))) (Or.inl (by decide))) (Or.inl (by decide)))]
                  refine jblk hF [(.iload_n 2, 1), (.aload_n 0, 1)] (by decide +kernel) (pc' := 130) (lo' := [(0, (2, 35)), (1, (0, p)), (2, (0, k)), (3, (0, i))]) (st' := [(2, 35), (0, k), (2, 87)]) rfl ?_
                  refine jget hF 13 71 2 71 rfl (by decide) (by decide) rfl wd_1534 (by decide +kernel) (by exact hS.k35) ?_
                  rw [SR.r71 (SR.s (SR.s (SR.s hR_m2 (Or.inl (by decide))) (Or.inl (by decide))) (Or.inl (by decide)))]
                  refine jblk hF [(.iload_n 3, 1)] (by decide +kernel) (pc' := 134) (lo' := [(0, (2, 35)), (1, (0, p)), (2, (0, k)), (3, (0, i))]) (st' := [(0, i), (2, 87), (0, k), (2, 87)]) rfl ?_
                  refine jiald hF (by decide +kernel) (by exact hS.k87) (by omega) (by have := hS.l87; omega) ?_
                  rw [show (set2 (set2 (set2 m2 84 k (m2 84 i)) 85 k (m2 85 i)) 86 k (m2 86 i)) 87 i = m2 87 i from ((s2_a (by decide)).trans ((s2_a (by decide)).trans (s2_a (by decide))))]
                  refine jiast hF (by decide +kernel) (by decide) (by exact hS.k87) (by omega) (by have := hS.l87; omega) ?_
                  refine jblk hF [(.iinc 2 1, 3), (.iinc 3 1, 3)] (by decide +kernel) (pc' := 142) (lo' := [(3, (0, i + 1)), (2, (0, k + 1)), (0, (2, 35)), (1, (0, p))]) (st' := []) rfl ?_
                  refine jgoto hF (off := (-72)) 70 (by decide +kernel) (by decide) ?_
                  refine jsub [2, 3, 1, 0] rfl ?_
                  refine ih_9 (k + 1) (i + 1) (set2 (set2 (set2 (set2 m2 84 k (m2 84 i)) 85 k (m2 85 i)) 86 k (m2 86 i)) 87 k (m2 87 i)) ?_ ?_ ?_ ?_
                  · omega
                  · exact (SR.s (SR.s (SR.s (SR.s hR_m2 (Or.inl (by decide))) (Or.inl (by decide))) (Or.inl (by decide))) (Or.inl (by decide)))
                  · rw [cmM_s (by omega), ← hcm.1, ← hcm.2]; first | (rw [if_pos (by omega)]; exact hcm.elim fun a b => ⟨by omega, by assumption⟩) | (rw [if_pos (by omega)]; exact ⟨hcm.1, hcm.2⟩) | (rw [if_neg (by omega)]; exact ⟨rfl, rfl⟩)
                  · omega
          refine jsub [2, 3, 1, 0] rfl ?_
          refine L_10 _ 0 0 (set2 m1 82 p 1) ?_ ?_ ?_ (Nat.lt_succ_self _)
          · omega
          · exact (SR.s hR_m1 (Or.inl (by decide)))
          · rw [hM0]; exact ⟨rfl, rfl⟩
        · refine jblk hF [(.aload_n 0, 1)] (by decide +kernel) (pc' := 32) (lo' := [(0, (2, 35)), (1, (0, p)), (2, (0, n))]) (st' := [(2, 35)]) rfl ?_
          refine jget hF 13 67 2 67 rfl (by decide) (by decide) rfl wd_1530 (by decide +kernel) (by exact hS.k35) ?_
          rw [SR.r67 hR_m1]
          refine jblk hF [(.bipush 40, 2), (.iload_n 1, 1), (.imul, 1), (.iload_n 2, 1), (.iadd, 1), (.aload_n 0, 1), (.iload_n 1, 1), (.aload_n 0, 1)] (by decide +kernel) (pc' := 44) (lo' := [(0, (2, 35)), (1, (0, p)), (2, (0, n))]) (st' := [(2, 35), (0, p), (2, 35), (0, (40 * p) + n), (2, 83)]) rfl ?_
          refine jget hF 13 37 2 37 rfl (by decide) (by decide) rfl wd_1500 (by decide +kernel) (by exact hS.k35) ?_
          rw [SR.r37 hR_m1]
          refine jblk hF [(.iload_n 2, 1)] (by decide +kernel) (pc' := 48) (lo' := [(0, (2, 35)), (1, (0, p)), (2, (0, n))]) (st' := [(0, n), (2, 61), (0, p), (2, 35), (0, (40 * p) + n), (2, 83)]) rfl ?_
          refine jlald hF (by decide +kernel) (by exact hS.k61) (by omega) (by have := hS.l61; omega) ?_
          refine jwL0 ?_
          refine jcallV hF (c_X12_keptOf hG hS hR_m1 p (wL (m1 61 n)) (by first | omega | exact hE.fPG hp | exact (EQ36.f _ _).fPG hp) (by first | exact wL_in _ | omega)) MW_X12_keptOf 13 (by decide) (by exact hS.k35) wd_2023 wd_2025 wd_p87 (by decide +kernel) [(0, (40 * p) + n), (2, 83)] rfl rfl (by decide) (Nat.le_of_ble_eq_true rfl) (by decide) (kV ?_)
          have hf_14 := nearBy_in ((wL (m1 61 n))) (10 ^ (m1 51 p).toNat) (m1 53 p) (wL_in _) ten_pos
          refine jlast hF (by decide +kernel) (by decide) (by exact hS.k83) (by omega) (by have := hS.l83; omega) ?_
          refine jblk hF [(.iinc 2 1, 3)] (by decide +kernel) (pc' := 56) (lo' := [(2, (0, n + 1)), (0, (2, 35)), (1, (0, p))]) (st' := []) rfl ?_
          refine jgoto hF (off := (-35)) 21 (by decide +kernel) (by decide) ?_
          refine jsub [1, 2, 0] rfl ?_
          refine ih_5 (n + 1) (set2 m1 83 ((40 * p) + n) (nearBy (wL (m1 61 n)) (10 ^ (m1 51 p).toNat) (m1 53 p))) ?_ ?_ ?_ ?_ ?_ ?_
          · omega
          · exact hR_m1.s (Or.inl (by decide))
          · intro a j q1 q2; exact (if_neg (by omega)).trans (hf1 a j q1 q2)
          · exact h61
          · intro j q1 q2; by_cases e : j = n; (subst e; rw [s2_s]; unfold keptV; rw [h61 j (by omega) (by omega), hE.at 51 (by decide), hE.at 53 (by decide)]); (rw [s2_k (by omega)]; exact hpl j q1 (by omega))
          · omega
    refine jsub [1, 2, 0] rfl ?_
    refine L_6 _ 0 m_3 ?_ ?_ ?_ ?_ ?_ (Nat.lt_succ_self _)
    · omega
    · exact hR_m_3
    · exact fun a j q1 _ => hK.1 a j (by omega) (by omega) (by omega) (by omega)
    · exact fun j q1 q2 => hK.2.1 j q1 q2
    · intro j q1 q2; omega
  · refine jif_ne hF (off := 5) 10 (by decide +kernel) (by decide) (by decide) (fun h => absurd h (by decide)) (fun _ => ?_)
    refine jblk hF [(.iconst 0, 1)] (by decide +kernel) (pc' := 9) (lo' := [(0, (2, 35)), (1, (0, p))]) (st' := [(0, 0)]) rfl ?_
    refine jzret hF hr (by omega) (by decide +kernel) ?_
    exact lMB0 ⟨hR, by exact ⟨⟨fun h => h.elim, fun h => absurd h (by omega)⟩, fun _ => rfl, fun h => absurd h (by omega)⟩⟩
set_option maxHeartbeats 4000000 in
set_option maxRecDepth 100000 in
theorem c_X12_proof {l : Launch} {g : GP} (hG : GH g) {kd : Int → Nat} {ln : Int → Int} {mem : Int → Int → Int} {sz : Nat} (hS : SK kd ln) (hR : SR mem) (p w : Int) (h_p : InI p) (h_w : InI w) (hPS : PGS mem) (hSL : SLS mem) (h0 : 0 ≤ mem 35 0 ∧ mem 35 0 ≤ 1000) (hSN : -1 ≤ mem 35 2 ∧ mem 35 2 ≤ mem 35 0) (hIS : IST mem) (hPR : PRS mem) (hPL : PLB mem) : MT l g yX12_proof cX12_proof 6 (some .int) 6 0 0 [(2, 35), (0, p), (0, w)] kd ln mem sz (pMR 0 (fun v mem' => SR mem' ∧ (((isPlt mem p ∧ 0 ≤ w ∧ w ≤ 1) → v = (if w = 0 then pfK mem p (mem 47 p).toNat else pfF mem p (mem 47 p).toNat) ∧ FR mem mem') ∧ (¬ (isPlt mem p ∧ 0 ≤ w ∧ w ≤ 1) → v = -1 ∧ mem' = mem))) kd ln sz) := by
  refine MT_of hG (by decide +kernel) (Nat.le_of_ble_eq_true rfl) (fun z hF hr hn => ?_)
  refine jblk hF [(.aload_n 0, 1), (.iload_n 1, 1)] (by decide +kernel) (pc' := 2) (lo' := [(0, (2, 35)), (1, (0, p)), (2, (0, w))]) (st' := [(0, p), (2, 35)]) rfl ?_
  refine jcallV hF (c_X12_isPlate hG hS hR p (by omega) (by omega) (by first | exact hIS)) MW_X12_isPlate 13 (by decide) (by exact hS.k35) wd_2162 wd_2164 wd_p98 (by decide +kernel) [] rfl rfl (by decide) (Nat.le_of_ble_eq_true rfl) (by decide) (kB (fun h_1 => ?_) (fun h_1 => ?_))
  · refine jif_eq hF (off := 12) 17 (by decide +kernel) (by decide) (by decide) (fun h => absurd h (by decide)) (fun _ => ?_)
    have hp := hPS.2.2 p (by omega) (by omega)
    refine jblk hF [(.iload_n 2, 1), (.iconst 0, 1), (.iconst 1, 1)] (by decide +kernel) (pc' := 11) (lo' := [(0, (2, 35)), (1, (0, p)), (2, (0, w))]) (st' := [(0, 1), (0, 0), (0, w)]) rfl ?_
    refine jcallS hF (c_X12_in hG w 0 1 (by omega) (by decide) (by decide)) MW_X12_in wd_1743 wd_1744 (by decide +kernel) [] rfl rfl (by decide) (Nat.le_of_ble_eq_true rfl) (by decide) (kB (fun h_3 => ?_) (fun h_3 => ?_))
    · refine jif_ne hF (off := 5) 19 (by decide +kernel) (by decide) (by decide) (fun _ => ?_) (fun h => absurd h (by decide))
      refine jblk hF [(.aload_n 0, 1), (.iload_n 1, 1), (.aload_n 0, 1)] (by decide +kernel) (pc' := 22) (lo' := [(0, (2, 35)), (1, (0, p)), (2, (0, w))]) (st' := [(2, 35), (0, p), (2, 35)]) rfl ?_
      refine jcallV hF (c_X12_known hG hS hR (by omega)) MW_X12_known 13 (by decide) (by exact hS.k35) wd_2157 wd_1751 wd_1752 (by decide +kernel) [(0, p), (2, 35)] rfl rfl (by decide) (Nat.le_of_ble_eq_true rfl) (by decide) (kV ?_)
      refine jcallV hF (c_X12_makeAs hG hS hR p (if mem 35 2 = -1 then mem 35 0 else mem 35 2) (by first | exact hE1.fPG hp | (first | omega | exact hE.fPG hp | exact (EQ36.f _ _).fPG hp)) (by first | exact hE1.fSLS e45 e33 e00 hSL | (first | exact hSL | exact (EQ36.f _ _).fSLS (s2_k (by decide)) (s2_k (by decide)) (s2_k (by decide)) hSL)) (by first | (rw [e33]; omega) | (first | omega | (rw [show (set2 mem 35 1 0) 35 33 = mem 35 33 from s2_k (by decide)]; omega) | (rw [show (set2 mem 35 1 0) 35 0 = mem 35 0 from s2_k (by decide)]; omega))) (by omega) (by first | (rw [e00]; omega) | (first | omega | (rw [show (set2 mem 35 1 0) 35 33 = mem 35 33 from s2_k (by decide)]; omega) | (rw [show (set2 mem 35 1 0) 35 0 = mem 35 0 from s2_k (by decide)]; omega)))) MW_X12_makeAs 13 (by decide) (by exact hS.k35) wd_2008 wd_2010 wd_p85 (by decide +kernel) [] rfl rfl (by decide) (Nat.le_of_ble_eq_true rfl) (by decide) (kMV (fun m_5 h_6 => ?_))
      obtain ⟨hR_m_5, h_6⟩ := h_6
      have hK := h_6
      have hE : EQ36 mem m_5 := hK.1.e
      have e47 := congrFun (hE.at 47 (by decide)) p
      have e72 : m_5 35 72 = mem 35 72 := hK.1 35 72 (by decide) (by decide) (by decide) (by decide)
      have hpr : ∀ n : Int, prtV m_5 p n = prtV mem p n := fun n => hE.fprtV e72 p n
      have hkp : ∀ n : Int, 0 ≤ n → n < mem 47 p → nearBy (wL (m_5 61 n)) (10 ^ (m_5 51 p).toNat) (m_5 53 p) = keptV mem p (numQ mem p n (knw mem)) := fun n q1 q2 => by unfold keptV; rw [hK.2.1 n q1 q2, hE.at 51 (by decide), hE.at 53 (by decide)]; rfl
      refine jblk hF [(.iconst 0, 1), (.istore_n 3, 1), (.iconst (-1), 1), (.istore 4, 2), (.aload_n 0, 1)] (by decide +kernel) (pc' := 34) (lo' := [(4, (0, (-1))), (3, (0, 0)), (0, (2, 35)), (1, (0, p)), (2, (0, w))]) (st' := [(2, 35)]) rfl ?_
      refine jget hF 13 22 2 22 rfl (by decide) (by decide) rfl wd_1485 (by decide +kernel) (by exact hS.k35) ?_
      rw [SR.r22 hR_m_5]
      refine jblk hF [(.iload_n 1, 1)] (by decide +kernel) (pc' := 38) (lo' := [(4, (0, (-1))), (3, (0, 0)), (0, (2, 35)), (1, (0, p)), (2, (0, w))]) (st' := [(0, p), (2, 47)]) rfl ?_
      refine jiald hF (by decide +kernel) (by exact hS.k47) (by omega) (by have := hS.l47; omega) ?_
      refine jblk hF [(.iconst 1, 1), (.isub, 1), (.istore 5, 2)] (by decide +kernel) (pc' := 43) (lo' := [(5, (0, (m_5 47 p) - 1)), (4, (0, (-1))), (3, (0, 0)), (0, (2, 35)), (1, (0, p)), (2, (0, w))]) (st' := []) rfl ?_
      have L_8 : ∀ (fu_9 : Nat) (k : Int) (f : Int) (n : Int), (-1 ≤ n ∧ n ≤ mem 47 p - 1) → (k = pfK mem p (mem 47 p - 1 - n).toNat) → (f = pfF mem p (mem 47 p - 1 - n).toNat) →  (n + 1).toNat < fu_9 → J z g 6 0 0 (QM z g 0 0 (pMR 0 (fun v mem' => SR mem' ∧ (((isPlt mem p ∧ 0 ≤ w ∧ w ≤ 1) → v = (if w = 0 then pfK mem p (mem 47 p).toNat else pfF mem p (mem 47 p).toNat) ∧ FR mem mem') ∧ (¬ (isPlt mem p ∧ 0 ≤ w ∧ w ≤ 1) → v = -1 ∧ mem' = mem))) kd ln sz)) 43 [(0, (2, 35)), (1, (0, p)), (2, (0, w)), (3, (0, k)), (4, (0, f)), (5, (0, n))] [] kd ln m_5 sz := by
        intro fu_9
        induction fu_9 with
        | zero => intro k f n _ _ _ hm; omega
        | succ fu_9 ih_7 =>
          intro k f n hn1 hk hf hm
          have hb := pfK_bd mem p (mem 47 p - 1 - n).toNat
          refine jblk hF [(.iload 5, 2)] (by decide +kernel) (pc' := 45) (lo' := [(0, (2, 35)), (1, (0, p)), (2, (0, w)), (3, (0, k)), (4, (0, f)), (5, (0, n))]) (st' := [(0, n)]) rfl ?_
          refine jif_lt hF (off := 39) 84 (by decide +kernel) (by decide) (by omega) (fun h_10 => ?_) (fun h_10 => ?_)
          · refine jblk hF [(.iload_n 2, 1)] (by decide +kernel) (pc' := 85) (lo' := [(0, (2, 35)), (1, (0, p)), (2, (0, w)), (3, (0, k)), (4, (0, f)), (5, (0, n))]) (st' := [(0, w)]) rfl ?_
            refine jif_ne hF (off := 7) 92 (by decide +kernel) (by decide) (by omega) (fun h_11 => ?_) (fun h_11 => ?_)
            · refine jblk hF [(.iload 4, 2)] (by decide +kernel) (pc' := 94) (lo' := [(0, (2, 35)), (1, (0, p)), (2, (0, w)), (3, (0, k)), (4, (0, f)), (5, (0, n))]) (st' := [(0, f)]) rfl ?_
              refine jiret hF hr (by decide +kernel) ?_
              exact lMR ⟨hR_m_5, by first | exact ⟨fun _ => ⟨by rw [if_pos (by omega), hk]; congr 1; omega, hK.1⟩, fun h => absurd (by omega) h⟩ | exact ⟨fun _ => ⟨by rw [if_neg (by omega), hf]; congr 1; omega, hK.1⟩, fun h => absurd (by omega) h⟩⟩
            · refine jblk hF [(.iload_n 3, 1)] (by decide +kernel) (pc' := 89) (lo' := [(0, (2, 35)), (1, (0, p)), (2, (0, w)), (3, (0, k)), (4, (0, f)), (5, (0, n))]) (st' := [(0, k)]) rfl ?_
              refine jgoto hF (off := 5) 94 (by decide +kernel) (by decide) ?_
              refine jiret hF hr (by decide +kernel) ?_
              exact lMR ⟨hR_m_5, by first | exact ⟨fun _ => ⟨by rw [if_pos (by omega), hk]; congr 1; omega, hK.1⟩, fun h => absurd (by omega) h⟩ | exact ⟨fun _ => ⟨by rw [if_neg (by omega), hf]; congr 1; omega, hK.1⟩, fun h => absurd (by omega) h⟩⟩
          · have hp1 := hpr n
            have hk1 := hkp n (by omega) (by omega)
            have hs9 := pf_s (mem := mem) (p := p) (n := n) (by omega) (by omega)
            rw [← hp1, ← hk1] at hs9
            refine jblk hF [(.aload_n 0, 1), (.iload_n 1, 1), (.iload 5, 2)] (by decide +kernel) (pc' := 52) (lo' := [(0, (2, 35)), (1, (0, p)), (2, (0, w)), (3, (0, k)), (4, (0, f)), (5, (0, n))]) (st' := [(0, n), (0, p), (2, 35)]) rfl ?_
            refine jcallV hF (c_X12_printedAt hG hS hR_m_5 p n (by omega) (by first | exact hPR | exact hE.fPRS e72 hPR) (by first | exact hPL | exact hE.fPLB hPL)) MW_X12_printedAt 13 (by decide) (by exact hS.k35) wd_2170 wd_2172 wd_p99 (by decide +kernel) [] rfl rfl (by decide) (Nat.le_of_ble_eq_true rfl) (by decide) (kV ?_)
            refine jblk hF [(.aload_n 0, 1), (.iload_n 1, 1), (.aload_n 0, 1)] (by decide +kernel) (pc' := 58) (lo' := [(0, (2, 35)), (1, (0, p)), (2, (0, w)), (3, (0, k)), (4, (0, f)), (5, (0, n))]) (st' := [(2, 35), (0, p), (2, 35), (1, prtV m_5 p n)]) rfl ?_
            refine jget hF 13 37 2 37 rfl (by decide) (by decide) rfl wd_1500 (by decide +kernel) (by exact hS.k35) ?_
            rw [SR.r37 hR_m_5]
            refine jblk hF [(.iload 5, 2)] (by decide +kernel) (pc' := 63) (lo' := [(0, (2, 35)), (1, (0, p)), (2, (0, w)), (3, (0, k)), (4, (0, f)), (5, (0, n))]) (st' := [(0, n), (2, 61), (0, p), (2, 35), (1, prtV m_5 p n)]) rfl ?_
            refine jlald hF (by decide +kernel) (by exact hS.k61) (by omega) (by have := hS.l61; omega) ?_
            refine jwL0 ?_
            refine jcallV hF (c_X12_keptOf hG hS hR_m_5 p (wL (m_5 61 n)) (by first | omega | exact hE.fPG hp | exact (EQ36.f _ _).fPG hp) (by first | exact wL_in _ | omega)) MW_X12_keptOf 13 (by decide) (by exact hS.k35) wd_2023 wd_2025 wd_p87 (by decide +kernel) [(1, prtV m_5 p n)] rfl rfl (by decide) (Nat.le_of_ble_eq_true rfl) (by decide) (kV ?_)
            have hf_12 := nearBy_in ((wL (m_5 61 n))) (10 ^ (m_5 51 p).toNat) (m_5 53 p) (wL_in _) ten_pos
            refine jlcmpW_eq hF (off := 10) 78 (by decide +kernel) (by decide +kernel) (by decide) (fun h_13 => ?_) (fun h_13 => ?_)
            · refine jblk hF [(.iinc 5 (-1), 3)] (by decide +kernel) (pc' := 81) (lo' := [(5, (0, n + (-1))), (0, (2, 35)), (1, (0, p)), (2, (0, w)), (3, (0, k)), (4, (0, f))]) (st' := []) rfl ?_
              refine jgoto hF (off := (-38)) 43 (by decide +kernel) (by decide) ?_
              refine jsub [1, 2, 3, 4, 5, 0] rfl ?_
              refine ih_7 k f (n + (-1)) ?_ ?_ ?_ ?_
              · omega
              · rw [show n + -1 = n - 1 by omega, hs9.1]; first | (rw [if_pos (by assumption)]; omega) | (rw [if_neg (by assumption)]; omega)
              · rw [show n + -1 = n - 1 by omega, hs9.2]; first | (rw [if_pos (by assumption)]; omega) | (rw [if_neg (by assumption)]; done)
              · omega
            · refine jblk hF [(.iinc 3 1, 3), (.iload 5, 2), (.istore 4, 2), (.iinc 5 (-1), 3)] (by decide +kernel) (pc' := 81) (lo' := [(5, (0, n + (-1))), (4, (0, n)), (3, (0, k + 1)), (0, (2, 35)), (1, (0, p)), (2, (0, w))]) (st' := []) rfl ?_
              refine jgoto hF (off := (-38)) 43 (by decide +kernel) (by decide) ?_
              refine jsub [3, 4, 5, 2, 1, 0] rfl ?_
              refine ih_7 (k + 1) n (n + (-1)) ?_ ?_ ?_ ?_
              · omega
              · rw [show n + -1 = n - 1 by omega, hs9.1]; first | (rw [if_pos (by assumption)]; omega) | (rw [if_neg (by assumption)]; omega)
              · rw [show n + -1 = n - 1 by omega, hs9.2]; first | (rw [if_pos (by assumption)]; omega) | (rw [if_neg (by assumption)]; done)
              · omega
      refine jsub [3, 4, 5, 2, 1, 0] rfl ?_
      refine L_8 _ 0 (-1) ((m_5 47 p) - 1) ?_ ?_ ?_ (Nat.lt_succ_self _)
      · omega
      · rw [show (mem 47 p - 1 - (((m_5 47 p) - 1))).toNat = 0 by omega]; rfl
      · rw [show (mem 47 p - 1 - (((m_5 47 p) - 1))).toNat = 0 by omega]; rfl
    · refine jif_ne hF (off := 5) 19 (by decide +kernel) (by decide) (by decide) (fun h => absurd h (by decide)) (fun _ => ?_)
      refine jblk hF [(.iconst (-1), 1)] (by decide +kernel) (pc' := 18) (lo' := [(0, (2, 35)), (1, (0, p)), (2, (0, w))]) (st' := [(0, (-1))]) rfl ?_
      refine jiret hF hr (by decide +kernel) ?_
      exact lMR ⟨hR, by exact ⟨fun h => absurd h (by omega), fun _ => ⟨rfl, rfl⟩⟩⟩
  · refine jif_eq hF (off := 12) 17 (by decide +kernel) (by decide) (by decide) (fun _ => ?_) (fun h => absurd h (by decide))
    refine jblk hF [(.iconst (-1), 1)] (by decide +kernel) (pc' := 18) (lo' := [(0, (2, 35)), (1, (0, p)), (2, (0, w))]) (st' := [(0, (-1))]) rfl ?_
    refine jiret hF hr (by decide +kernel) ?_
    exact lMR ⟨hR, by exact ⟨fun h => absurd h (by omega), fun _ => ⟨rfl, rfl⟩⟩⟩
end
