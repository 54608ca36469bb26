section
def cq0 (mem : Int → Int → Int) (t p : Int) : Nat → Int
  | 0 => 0
  | n + 1 => cq0 mem t p n + (if ¬ mem 96 (40 * t + n) = 0 then 1 else 0)
theorem cq0_s {mem : Int → Int → Int} {t p n : Int} (q : 0 ≤ n) : cq0 mem t p (n + 1).toNat = cq0 mem t p n.toNat + (if ¬ mem 96 (40 * t + n) = 0 then 1 else 0) := by
  rw [show (n + 1).toNat = n.toNat + 1 by omega, cq0, show ((n.toNat : Nat) : Int) = n by omega]
def cq1 (mem : Int → Int → Int) (t p : Int) : Nat → Int
  | 0 => 0
  | n + 1 => cq1 mem t p n + (if ¬ mem 96 (40 * t + n) = 0 ∧ wL (mem 95 (40 * t + n)) = wL (prtV mem p n) then 1 else 0)
theorem cq1_s {mem : Int → Int → Int} {t p n : Int} (q : 0 ≤ n) : cq1 mem t p (n + 1).toNat = cq1 mem t p n.toNat + (if ¬ mem 96 (40 * t + n) = 0 ∧ wL (mem 95 (40 * t + n)) = wL (prtV mem p n) then 1 else 0) := by
  rw [show (n + 1).toNat = n.toNat + 1 by omega, cq1, show ((n.toNat : Nat) : Int) = n by omega]
def cq2 (mem : Int → Int → Int) (t p : Int) : Nat → Int
  | 0 => 0
  | n + 1 => cq2 mem t p n + (if ¬ mem 96 (40 * t + n) = 0 ∧ wL (mem 95 (40 * t + n)) = wL (prtV mem p n) ∧ ¬ wL (mem 95 (40 * t + n)) = wL (rightV mem p n) then 1 else 0)
theorem cq2_s {mem : Int → Int → Int} {t p n : Int} (q : 0 ≤ n) : cq2 mem t p (n + 1).toNat = cq2 mem t p n.toNat + (if ¬ mem 96 (40 * t + n) = 0 ∧ wL (mem 95 (40 * t + n)) = wL (prtV mem p n) ∧ ¬ wL (mem 95 (40 * t + n)) = wL (rightV mem p n) then 1 else 0) := by
  rw [show (n + 1).toNat = n.toNat + 1 by omega, cq2, show ((n.toNat : Nat) : Int) = n by omega]
def cq3 (mem : Int → Int → Int) (t p : Int) : Nat → Int
  | 0 => 0
  | n + 1 => cq3 mem t p n + (if ¬ mem 96 (40 * t + n) = 0 ∧ ¬ wL (prtV mem p n) = wL (rightV mem p n) ∧ wL (mem 95 (40 * t + n)) = wL (rightV mem p n) then 1 else 0)
theorem cq3_s {mem : Int → Int → Int} {t p n : Int} (q : 0 ≤ n) : cq3 mem t p (n + 1).toNat = cq3 mem t p n.toNat + (if ¬ mem 96 (40 * t + n) = 0 ∧ ¬ wL (prtV mem p n) = wL (rightV mem p n) ∧ wL (mem 95 (40 * t + n)) = wL (rightV mem p n) then 1 else 0) := by
  rw [show (n + 1).toNat = n.toNat + 1 by omega, cq3, show ((n.toNat : Nat) : Int) = n by omega]
def cq4 (mem : Int → Int → Int) (t p : Int) : Nat → Int
  | 0 => 0
  | n + 1 => cq4 mem t p n + (if ¬ mem 96 (40 * t + n) = 0 ∧ wL (mem 95 (40 * t + n)) = wL (rightV mem p n) then 1 else 0)
theorem cq4_s {mem : Int → Int → Int} {t p n : Int} (q : 0 ≤ n) : cq4 mem t p (n + 1).toNat = cq4 mem t p n.toNat + (if ¬ mem 96 (40 * t + n) = 0 ∧ wL (mem 95 (40 * t + n)) = wL (rightV mem p n) then 1 else 0) := by
  rw [show (n + 1).toNat = n.toNat + 1 by omega, cq4, show ((n.toNat : Nat) : Int) = n by omega]
theorem prt_congr {mem mm : Int → Int → Int} (h35 : mm 35 = mem 35) (h83 : mm 83 = mem 83) (h84 : mm 84 = mem 84) (h85 : mm 85 = mem 85) (h86 : mm 86 = mem 86) (h87 : mm 87 = mem 87) (p n : Int) : prtV mm p n = prtV mem p n := by
  have : ∀ k : Nat, prN mm p n k = prN mem p n k := by
    intro k
    induction k with
    | zero => show absV (mm 83 _) = absV (mem 83 _); rw [h83]
    | succ k ih => unfold prN; rw [ih, h84, h85, h86, h87]
  unfold prtV
  rw [this, h35, h83]
set_option maxHeartbeats 4000000 in
set_option maxRecDepth 100000 in
theorem c_X12_copy {l : Launch} {g : GP} (hG : GH g) {kd : Int → Nat} {ln : Int → Int} {mem : Int → Int → Int} {sz : Nat} (hS : SK kd ln) (hR : SR mem) (p : Int) (h_p : InI p) (hPS : PGS mem) (hIS : IST mem) (hPR : PRS mem) (hPL : PLB mem) (hCP : CPS mem) : MT l g yX12_copy cX12_copy 3 (some .int) 3 0 0 [(2, 35), (0, p)] kd ln mem sz (pMR 0 (fun v mem' => SR mem' ∧ (((isPlt mem p ∧ mem 35 79 ≠ 8) → v = mem 35 79 ∧ CPM mem mem' p) ∧ (¬ (isPlt mem p ∧ mem 35 79 ≠ 8) → v = -1 ∧ mem' = mem))) kd ln sz) := by
  refine MT_of hG (by decide +kernel) (Nat.le_of_ble_eq_true rfl) (fun z hF hr hn => ?_)
  refine jblk hF [(.aload_n 0, 1), (.iload_n 1, 1)] (by decide +kernel) (pc' := 2) (lo' := [(0, (2, 35)), (1, (0, p))]) (st' := [(0, p), (2, 35)]) rfl ?_
  refine jcallV hF (c_X12_isPlate hG hS hR p (by omega) (by omega) (by first | exact hIS)) MW_X12_isPlate 13 (by decide) (by exact hS.k35) wd_2162 wd_2164 wd_p98 (by decide +kernel) [] rfl rfl (by decide) (Nat.le_of_ble_eq_true rfl) (by decide) (kB (fun h_1 => ?_) (fun h_1 => ?_))
  · refine jif_eq hF (off := 12) 17 (by decide +kernel) (by decide) (by decide) (fun h => absurd h (by decide)) (fun _ => ?_)
    have hp := hPS.2.2 p (by omega) (by omega)
    refine jblk hF [(.aload_n 0, 1)] (by decide +kernel) (pc' := 9) (lo' := [(0, (2, 35)), (1, (0, p))]) (st' := [(2, 35)]) rfl ?_
    refine jget hF 13 79 0 79 rfl (by decide) (by decide) rfl wd_1542 (by decide +kernel) (by exact hS.k35) ?_
    refine jblk hF [(.bipush 8, 2)] (by decide +kernel) (pc' := 14) (lo' := [(0, (2, 35)), (1, (0, p))]) (st' := [(0, 8), (0, mem 35 79)]) rfl ?_
    refine jicmp_ne hF (off := 5) 19 (by decide +kernel) (by decide) (by omega) (by decide) (fun h_3 => ?_) (fun h_3 => ?_)
    · refine jblk hF [(.aload_n 0, 1)] (by decide +kernel) (pc' := 20) (lo' := [(0, (2, 35)), (1, (0, p))]) (st' := [(2, 35)]) rfl ?_
      refine jget hF 13 73 2 73 rfl (by decide) (by decide) rfl wd_1536 (by decide +kernel) (by exact hS.k35) ?_
      rw [SR.r73 hR]
      refine jblk hF [(.aload_n 0, 1)] (by decide +kernel) (pc' := 24) (lo' := [(0, (2, 35)), (1, (0, p))]) (st' := [(2, 35), (2, 88)]) rfl ?_
      refine jget hF 13 79 0 79 rfl (by decide) (by decide) rfl wd_1542 (by decide +kernel) (by exact hS.k35) ?_
      refine jblk hF [(.iload_n 1, 1)] (by decide +kernel) (pc' := 28) (lo' := [(0, (2, 35)), (1, (0, p))]) (st' := [(0, p), (0, mem 35 79), (2, 88)]) rfl ?_
      refine jiast hF (by decide +kernel) (by decide) (by exact hS.k88) (by omega) (by have := hS.l88; omega) ?_
      refine jblk hF [(.iconst 0, 1), (.istore_n 2, 1)] (by decide +kernel) (pc' := 31) (lo' := [(2, (0, 0)), (0, (2, 35)), (1, (0, p))]) (st' := []) rfl ?_
      have L_5 : ∀ (fu_6 : Nat) (n : Int) (m1 : Int → Int → Int), (0 ≤ n ∧ n ≤ mem 47 p) → (SR m1) → (∀ a j : Int, ¬ (a = 88 ∧ j = mem 35 79) → ¬ (a = 89 ∧ 40 * mem 35 79 ≤ j ∧ j < 40 * mem 35 79 + mem 47 p) → m1 a j = mem a j) → (m1 88 (mem 35 79) = p) → (∀ j : Int, 0 ≤ j → j < n → m1 89 (40 * mem 35 79 + j) = prtV mem p j) →  (mem 47 p - n).toNat < fu_6 → J z g 3 0 0 (QM z g 0 0 (pMR 0 (fun v mem' => SR mem' ∧ (((isPlt mem p ∧ mem 35 79 ≠ 8) → v = mem 35 79 ∧ CPM mem mem' p) ∧ (¬ (isPlt mem p ∧ mem 35 79 ≠ 8) → v = -1 ∧ mem' = mem))) kd ln sz)) 31 [(0, (2, 35)), (1, (0, p)), (2, (0, n))] [] kd ln m1 sz := by
        intro fu_6
        induction fu_6 with
        | zero => intro n m1 _ _ _ _ _ hm; omega
        | succ fu_6 ih_4 =>
          intro n m1 hn1 hR_m1 hf1 h88 hpl hm
          have hg : ∀ a : Int, a ≠ 88 → a ≠ 89 → m1 a = mem a := fun a q1 q2 => funext fun j => hf1 a j (by omega) (by omega)
          have e47 := congrFun (hg 47 (by decide) (by decide)) p
          have e79 : m1 35 79 = mem 35 79 := congrFun (hg 35 (by decide) (by decide)) 79
          have hPRc : PRS mem → PRS m1 := fun h => by unfold PRS; rw [hg 35 (by decide) (by decide), hg 84 (by decide) (by decide), hg 85 (by decide) (by decide), hg 86 (by decide) (by decide), hg 87 (by decide) (by decide)]; exact h
          have hPLc : PLB mem → PLB m1 := fun h i q1 q2 => by rw [hg 83 (by decide) (by decide)]; exact h i q1 q2
          have hprt : prtV m1 p n = prtV mem p n := prt_congr (hg 35 (by decide) (by decide)) (hg 83 (by decide) (by decide)) (hg 84 (by decide) (by decide)) (hg 85 (by decide) (by decide)) (hg 86 (by decide) (by decide)) (hg 87 (by decide) (by decide)) p n
          refine jblk hF [(.iload_n 2, 1), (.aload_n 0, 1)] (by decide +kernel) (pc' := 33) (lo' := [(0, (2, 35)), (1, (0, p)), (2, (0, n))]) (st' := [(2, 35), (0, n)]) rfl ?_
          refine jget hF 13 22 2 22 rfl (by decide) (by decide) rfl wd_1485 (by decide +kernel) (by exact hS.k35) ?_
          rw [SR.r22 hR_m1]
          refine jblk hF [(.iload_n 1, 1)] (by decide +kernel) (pc' := 37) (lo' := [(0, (2, 35)), (1, (0, p)), (2, (0, n))]) (st' := [(0, p), (2, 47), (0, n)]) rfl ?_
          refine jiald hF (by decide +kernel) (by exact hS.k47) (by omega) (by have := hS.l47; omega) ?_
          refine jicmp_ge hF (off := 29) 67 (by decide +kernel) (by decide) (by omega) (by omega) (fun h_7 => ?_) (fun h_7 => ?_)
          · refine jblk hF [(.aload_n 0, 1), (.dup, 1)] (by decide +kernel) (pc' := 69) (lo' := [(0, (2, 35)), (1, (0, p)), (2, (0, n))]) (st' := [(2, 35), (2, 35)]) rfl ?_
            refine jget hF 13 79 0 79 rfl (by decide) (by decide) rfl wd_1542 (by decide +kernel) (by exact hS.k35) ?_
            refine jblk hF [(.iconst 1, 1), (.iadd, 1)] (by decide +kernel) (pc' := 74) (lo' := [(0, (2, 35)), (1, (0, p)), (2, (0, n))]) (st' := [(0, (m1 35 79) + 1), (2, 35)]) rfl ?_
            refine jput hF 13 79 0 79 rfl (by decide) (by decide) rfl wd_1542 (by decide +kernel) rfl (Or.inl rfl) (by exact hS.k35) (fun h => by cases h) ?_
            refine jblk hF [(.aload_n 0, 1)] (by decide +kernel) (pc' := 78) (lo' := [(0, (2, 35)), (1, (0, p)), (2, (0, n))]) (st' := [(2, 35)]) rfl ?_
            refine jget hF 13 79 0 79 rfl (by decide) (by decide) rfl wd_1542 (by decide +kernel) (by exact hS.k35) ?_
            rw [show (set2 m1 35 79 ((m1 35 79) + 1)) 35 79 = (m1 35 79) + 1 from s2_s]
            refine jblk hF [(.iconst 1, 1), (.isub, 1)] (by decide +kernel) (pc' := 83) (lo' := [(0, (2, 35)), (1, (0, p)), (2, (0, n))]) (st' := [(0, ((m1 35 79) + 1) - 1)]) rfl ?_
            refine jiret hF hr (by decide +kernel) ?_
            exact lMR ⟨(SR.s hR_m1 (Or.inr (by decide))), by exact ⟨fun _ => ⟨by omega, fun a j q1 q2 q3 => (if_neg q3).trans (hf1 a j q1 q2), by rw [s2_a (by decide)]; exact h88, by rw [s2_s, e79], fun j q1 q2 => by rw [s2_a (by decide)]; exact hpl j q1 (by omega)⟩, fun h => absurd (by omega) h⟩⟩
          · refine jblk hF [(.aload_n 0, 1)] (by decide +kernel) (pc' := 42) (lo' := [(0, (2, 35)), (1, (0, p)), (2, (0, n))]) (st' := [(2, 35)]) rfl ?_
            refine jget hF 13 74 2 74 rfl (by decide) (by decide) rfl wd_1537 (by decide +kernel) (by exact hS.k35) ?_
            rw [SR.r74 hR_m1]
            refine jblk hF [(.bipush 40, 2), (.aload_n 0, 1)] (by decide +kernel) (pc' := 48) (lo' := [(0, (2, 35)), (1, (0, p)), (2, (0, n))]) (st' := [(2, 35), (0, 40), (2, 89)]) rfl ?_
            refine jget hF 13 79 0 79 rfl (by decide) (by decide) rfl wd_1542 (by decide +kernel) (by exact hS.k35) ?_
            refine jblk hF [(.imul, 1), (.iload_n 2, 1), (.iadd, 1), (.aload_n 0, 1), (.iload_n 1, 1), (.iload_n 2, 1)] (by decide +kernel) (pc' := 57) (lo' := [(0, (2, 35)), (1, (0, p)), (2, (0, n))]) (st' := [(0, n), (0, p), (2, 35), (0, (40 * (m1 35 79)) + n), (2, 89)]) rfl ?_
            refine jcallV hF (c_X12_printedAt hG hS hR_m1 p n (by omega) (by first | exact hPR | exact hPRc hPR) (by first | exact hPL | exact hPLc hPL)) MW_X12_printedAt 13 (by decide) (by exact hS.k35) wd_2170 wd_2172 wd_p99 (by decide +kernel) [(0, (40 * (m1 35 79)) + n), (2, 89)] rfl rfl (by decide) (Nat.le_of_ble_eq_true rfl) (by decide) (kV ?_)
            refine jlast hF (by decide +kernel) (by decide) (by exact hS.k89) (by omega) (by have := hS.l89; omega) ?_
            refine jblk hF [(.iinc 2 1, 3)] (by decide +kernel) (pc' := 64) (lo' := [(2, (0, n + 1)), (0, (2, 35)), (1, (0, p))]) (st' := []) rfl ?_
            refine jgoto hF (off := (-33)) 31 (by decide +kernel) (by decide) ?_
            refine jsub [1, 2, 0] rfl ?_
            refine ih_4 (n + 1) (set2 m1 89 ((40 * (m1 35 79)) + n) (prtV m1 p n)) ?_ ?_ ?_ ?_ ?_ ?_
            · omega
            · exact (SR.s hR_m1 (Or.inl (by decide)))
            · intro a j q1 q2; exact (if_neg (by omega)).trans (hf1 a j q1 q2)
            · rw [s2_a (by decide)]; exact h88
            · intro j q1 q2; rw [e79]; by_cases e : j = n; (subst e; rw [s2_s]; exact hprt); (rw [s2_k (by omega)]; exact hpl j q1 (by omega))
            · omega
      refine jsub [1, 2, 0] rfl ?_
      refine L_5 _ 0 (set2 mem 88 (mem 35 79) p) ?_ ?_ ?_ ?_ ?_ (Nat.lt_succ_self _)
      · omega
      · exact (SR.s hR (Or.inl (by decide)))
      · intro a j q1 _; exact if_neg q1
      · rw [s2_s]
      · intro j q1 q2; omega
    · refine jblk hF [(.iconst (-1), 1)] (by decide +kernel) (pc' := 18) (lo' := [(0, (2, 35)), (1, (0, p))]) (st' := [(0, (-1))]) rfl ?_
      refine jiret hF hr (by decide +kernel) ?_
      exact lMR ⟨hR, by exact ⟨fun h => absurd h (by omega), fun _ => ⟨rfl, rfl⟩⟩⟩
  · refine jif_eq hF (off := 12) 17 (by decide +kernel) (by decide) (by decide) (fun _ => ?_) (fun h => absurd h (by decide))
    refine jblk hF [(.iconst (-1), 1)] (by decide +kernel) (pc' := 18) (lo' := [(0, (2, 35)), (1, (0, p))]) (st' := [(0, (-1))]) rfl ?_
    refine jiret hF hr (by decide +kernel) ?_
    exact lMR ⟨hR, by exact ⟨fun h => absurd h (by omega), fun _ => ⟨rfl, rfl⟩⟩⟩
set_option maxHeartbeats 4000000 in
set_option maxRecDepth 100000 in
theorem c_X12_compare_ {l : Launch} {g : GP} (hG : GH g) {kd : Int → Nat} {ln : Int → Int} {mem : Int → Int → Int} {sz : Nat} (hS : SK kd ln) (hR : SR mem) (t w : Int) (h_t : InI t) (h_w : InI w) (hPS : PGS mem) (hIS : IST mem) (hPR : PRS mem) (hPL : PLB mem) (hOT : OTS mem) (hTD : ∀ i : Int, 0 ≤ i → i < 320 → 0 ≤ mem 96 i ∧ mem 96 i ≤ 1) : MT l g yX12_compare_ cX12_compare_ 15 (some .int) 4 0 0 [(2, 35), (0, t), (0, w)] kd ln mem sz (pV (0, if (0 ≤ t ∧ t ≤ mem 35 84 - 1) ∧ (0 ≤ w ∧ w ≤ 4) ∧ mem 82 (mem 94 t) = 1 then (if w = 0 then cq0 mem t (mem 94 t) (mem 47 (mem 94 t)).toNat else if w = 1 then cq1 mem t (mem 94 t) (mem 47 (mem 94 t)).toNat else if w = 2 then cq2 mem t (mem 94 t) (mem 47 (mem 94 t)).toNat else if w = 3 then cq3 mem t (mem 94 t) (mem 47 (mem 94 t)).toNat else cq4 mem t (mem 94 t) (mem 47 (mem 94 t)).toNat) else -1) kd ln mem sz) := by
  refine MT_of hG (by decide +kernel) (Nat.le_of_ble_eq_true rfl) (fun z hF hr hn => ?_)
  refine jblk hF [(.iload_n 1, 1), (.iconst 0, 1), (.aload_n 0, 1)] (by decide +kernel) (pc' := 3) (lo' := [(0, (2, 35)), (1, (0, t)), (2, (0, w))]) (st' := [(2, 35), (0, 0), (0, t)]) rfl ?_
  refine jget hF 13 84 0 84 rfl (by decide) (by decide) rfl wd_1547 (by decide +kernel) (by exact hS.k35) ?_
  refine jblk hF [(.iconst 1, 1), (.isub, 1)] (by decide +kernel) (pc' := 8) (lo' := [(0, (2, 35)), (1, (0, t)), (2, (0, w))]) (st' := [(0, (mem 35 84) - 1), (0, 0), (0, t)]) rfl ?_
  refine jcallS hF (c_X12_in hG t 0 ((mem 35 84) - 1) (by omega) (by decide) (by omega)) MW_X12_in wd_1743 wd_1744 (by decide +kernel) [] rfl rfl (by decide) (Nat.le_of_ble_eq_true rfl) (by decide) (kB (fun h_1 => ?_) (fun h_1 => ?_))
  · refine jif_eq hF (off := 26) 37 (by decide +kernel) (by decide) (by decide) (fun h => absurd h (by decide)) (fun _ => ?_)
    have ht9 := hOT.2.2 t (by omega) (by omega)
    have hp := hPS.2.2 (mem 94 t) (by omega) (by omega)
    have hi9 := hIS (mem 94 t) (by omega) (by omega)
    refine jblk hF [(.iload_n 2, 1), (.iconst 0, 1), (.iconst 4, 1)] (by decide +kernel) (pc' := 17) (lo' := [(0, (2, 35)), (1, (0, t)), (2, (0, w))]) (st' := [(0, 4), (0, 0), (0, w)]) rfl ?_
    refine jcallS hF (c_X12_in hG w 0 4 (by omega) (by decide) (by decide)) MW_X12_in wd_1743 wd_1744 (by decide +kernel) [] rfl rfl (by decide) (Nat.le_of_ble_eq_true rfl) (by decide) (kB (fun h_3 => ?_) (fun h_3 => ?_))
    · refine jif_eq hF (off := 17) 37 (by decide +kernel) (by decide) (by decide) (fun h => absurd h (by decide)) (fun _ => ?_)
      refine jblk hF [(.aload_n 0, 1)] (by decide +kernel) (pc' := 24) (lo' := [(0, (2, 35)), (1, (0, t)), (2, (0, w))]) (st' := [(2, 35)]) rfl ?_
      refine jget hF 13 66 2 66 rfl (by decide) (by decide) rfl wd_1529 (by decide +kernel) (by exact hS.k35) ?_
      rw [SR.r66 hR]
      refine jblk hF [(.aload_n 0, 1)] (by decide +kernel) (pc' := 28) (lo' := [(0, (2, 35)), (1, (0, t)), (2, (0, w))]) (st' := [(2, 35), (2, 82)]) rfl ?_
      refine jget hF 13 81 2 81 rfl (by decide) (by decide) rfl wd_1544 (by decide +kernel) (by exact hS.k35) ?_
      rw [SR.r81 hR]
      refine jblk hF [(.iload_n 1, 1)] (by decide +kernel) (pc' := 32) (lo' := [(0, (2, 35)), (1, (0, t)), (2, (0, w))]) (st' := [(0, t), (2, 94), (2, 82)]) rfl ?_
      refine jiald hF (by decide +kernel) (by exact hS.k94) (by omega) (by have := hS.l94; omega) ?_
      refine jzald hF (by decide +kernel) (by exact hS.k82) (by omega) (by have := hS.l82; omega) ?_
      refine jif_ne hF (off := 5) 39 (by decide +kernel) (by decide) (by omega) (fun h_5 => ?_) (fun h_5 => ?_)
      · refine jblk hF [(.aload_n 0, 1)] (by decide +kernel) (pc' := 40) (lo' := [(0, (2, 35)), (1, (0, t)), (2, (0, w))]) (st' := [(2, 35)]) rfl ?_
        refine jget hF 13 81 2 81 rfl (by decide) (by decide) rfl wd_1544 (by decide +kernel) (by exact hS.k35) ?_
        rw [SR.r81 hR]
        refine jblk hF [(.iload_n 1, 1)] (by decide +kernel) (pc' := 44) (lo' := [(0, (2, 35)), (1, (0, t)), (2, (0, w))]) (st' := [(0, t), (2, 94)]) rfl ?_
        refine jiald hF (by decide +kernel) (by exact hS.k94) (by omega) (by have := hS.l94; omega) ?_
        refine jblk hF [(.istore_n 3, 1), (.iconst 0, 1), (.istore 4, 2), (.iconst 0, 1), (.istore 5, 2), (.iconst 0, 1), (.istore 6, 2), (.iconst 0, 1), (.istore 7, 2), (.iconst 0, 1), (.istore 8, 2), (.iconst 0, 1), (.istore 9, 2)] (by decide +kernel) (pc' := 64) (lo' := [(9, (0, 0)), (8, (0, 0)), (7, (0, 0)), (6, (0, 0)), (5, (0, 0)), (4, (0, 0)), (3, (0, mem 94 t)), (0, (2, 35)), (1, (0, t)), (2, (0, w))]) (st' := []) rfl ?_
        have L_7 : ∀ (fu_8 : Nat) (c0 : Int) (c1 : Int) (c2 : Int) (c3 : Int) (c4 : Int) (n : Int), (0 ≤ n ∧ n ≤ mem 47 (mem 94 t)) → (c0 = cq0 mem t (mem 94 t) n.toNat) → (c1 = cq1 mem t (mem 94 t) n.toNat) → (c2 = cq2 mem t (mem 94 t) n.toNat) → (c3 = cq3 mem t (mem 94 t) n.toNat) → (c4 = cq4 mem t (mem 94 t) n.toNat) →  (mem 47 (mem 94 t) - n).toNat < fu_8 → J z g 15 0 0 (QM z g 0 0 (pV (0, if (0 ≤ t ∧ t ≤ mem 35 84 - 1) ∧ (0 ≤ w ∧ w ≤ 4) ∧ mem 82 (mem 94 t) = 1 then (if w = 0 then cq0 mem t (mem 94 t) (mem 47 (mem 94 t)).toNat else if w = 1 then cq1 mem t (mem 94 t) (mem 47 (mem 94 t)).toNat else if w = 2 then cq2 mem t (mem 94 t) (mem 47 (mem 94 t)).toNat else if w = 3 then cq3 mem t (mem 94 t) (mem 47 (mem 94 t)).toNat else cq4 mem t (mem 94 t) (mem 47 (mem 94 t)).toNat) else -1) kd ln mem sz)) 64 [(0, (2, 35)), (1, (0, t)), (2, (0, w)), (3, (0, mem 94 t)), (4, (0, c0)), (5, (0, c1)), (6, (0, c2)), (7, (0, c3)), (8, (0, c4)), (9, (0, n))] [] kd ln mem sz := by
          intro fu_8
          induction fu_8 with
          | zero => intro c0 c1 c2 c3 c4 n _ _ _ _ _ _ hm; omega
          | succ fu_8 ih_6 =>
            intro c0 c1 c2 c3 c4 n hn1 hc0 hc1 hc2 hc3 hc4 hm
            refine jblk hF [(.iload 9, 2), (.aload_n 0, 1)] (by decide +kernel) (pc' := 67) (lo' := [(0, (2, 35)), (1, (0, t)), (2, (0, w)), (3, (0, mem 94 t)), (4, (0, c0)), (5, (0, c1)), (6, (0, c2)), (7, (0, c3)), (8, (0, c4)), (9, (0, n))]) (st' := [(2, 35), (0, n)]) rfl ?_
            refine jget hF 13 22 2 22 rfl (by decide) (by decide) rfl wd_1485 (by decide +kernel) (by exact hS.k35) ?_
            rw [SR.r22 hR]
            refine jblk hF [(.iload_n 3, 1)] (by decide +kernel) (pc' := 71) (lo' := [(0, (2, 35)), (1, (0, t)), (2, (0, w)), (3, (0, mem 94 t)), (4, (0, c0)), (5, (0, c1)), (6, (0, c2)), (7, (0, c3)), (8, (0, c4)), (9, (0, n))]) (st' := [(0, mem 94 t), (2, 47), (0, n)]) rfl ?_
            refine jiald hF (by decide +kernel) (by exact hS.k47) (by omega) (by have := hS.l47; omega) ?_
            refine jicmp_ge hF (off := 160) 232 (by decide +kernel) (by decide) (by omega) (by omega) (fun h_9 => ?_) (fun h_9 => ?_)
            · refine jblk hF [(.iload_n 2, 1)] (by decide +kernel) (pc' := 233) (lo' := [(0, (2, 35)), (1, (0, t)), (2, (0, w)), (3, (0, mem 94 t)), (4, (0, c0)), (5, (0, c1)), (6, (0, c2)), (7, (0, c3)), (8, (0, c4)), (9, (0, n))]) (st' := [(0, w)]) rfl ?_
              refine jif_ne hF (off := 8) 241 (by decide +kernel) (by decide) (by omega) (fun h_10 => ?_) (fun h_10 => ?_)
              · refine jblk hF [(.iload_n 2, 1), (.iconst 1, 1)] (by decide +kernel) (pc' := 243) (lo' := [(0, (2, 35)), (1, (0, t)), (2, (0, w)), (3, (0, mem 94 t)), (4, (0, c0)), (5, (0, c1)), (6, (0, c2)), (7, (0, c3)), (8, (0, c4)), (9, (0, n))]) (st' := [(0, 1), (0, w)]) rfl ?_
                refine jicmp_ne hF (off := 8) 251 (by decide +kernel) (by decide) (by omega) (by decide) (fun h_11 => ?_) (fun h_11 => ?_)
                · refine jblk hF [(.iload_n 2, 1), (.iconst 2, 1)] (by decide +kernel) (pc' := 253) (lo' := [(0, (2, 35)), (1, (0, t)), (2, (0, w)), (3, (0, mem 94 t)), (4, (0, c0)), (5, (0, c1)), (6, (0, c2)), (7, (0, c3)), (8, (0, c4)), (9, (0, n))]) (st' := [(0, 2), (0, w)]) rfl ?_
                  refine jicmp_ne hF (off := 8) 261 (by decide +kernel) (by decide) (by omega) (by decide) (fun h_12 => ?_) (fun h_12 => ?_)
                  · refine jblk hF [(.iload_n 2, 1), (.iconst 3, 1)] (by decide +kernel) (pc' := 263) (lo' := [(0, (2, 35)), (1, (0, t)), (2, (0, w)), (3, (0, mem 94 t)), (4, (0, c0)), (5, (0, c1)), (6, (0, c2)), (7, (0, c3)), (8, (0, c4)), (9, (0, n))]) (st' := [(0, 3), (0, w)]) rfl ?_
                    refine jicmp_ne hF (off := 8) 271 (by decide +kernel) (by decide) (by omega) (by decide) (fun h_13 => ?_) (fun h_13 => ?_)
                    · refine jblk hF [(.iload 8, 2)] (by decide +kernel) (pc' := 273) (lo' := [(0, (2, 35)), (1, (0, t)), (2, (0, w)), (3, (0, mem 94 t)), (4, (0, c0)), (5, (0, c1)), (6, (0, c2)), (7, (0, c3)), (8, (0, c4)), (9, (0, n))]) (st' := [(0, c4)]) rfl ?_
                      refine jiret hF hr (by decide +kernel) ?_
                      exact lV (by rw [if_pos (by omega), show (mem 47 (mem 94 t)).toNat = n.toNat by omega]; (repeat' split) <;> first | assumption | (exfalso; omega))
                    · refine jblk hF [(.iload 7, 2)] (by decide +kernel) (pc' := 268) (lo' := [(0, (2, 35)), (1, (0, t)), (2, (0, w)), (3, (0, mem 94 t)), (4, (0, c0)), (5, (0, c1)), (6, (0, c2)), (7, (0, c3)), (8, (0, c4)), (9, (0, n))]) (st' := [(0, c3)]) rfl ?_
                      refine jgoto hF (off := 5) 273 (by decide +kernel) (by decide) ?_
                      refine jiret hF hr (by decide +kernel) ?_
                      exact lV (by rw [if_pos (by omega), show (mem 47 (mem 94 t)).toNat = n.toNat by omega]; (repeat' split) <;> first | assumption | (exfalso; omega))
                  · refine jblk hF [(.iload 6, 2)] (by decide +kernel) (pc' := 258) (lo' := [(0, (2, 35)), (1, (0, t)), (2, (0, w)), (3, (0, mem 94 t)), (4, (0, c0)), (5, (0, c1)), (6, (0, c2)), (7, (0, c3)), (8, (0, c4)), (9, (0, n))]) (st' := [(0, c2)]) rfl ?_
                    refine jgoto hF (off := 15) 273 (by decide +kernel) (by decide) ?_
                    refine jiret hF hr (by decide +kernel) ?_
                    exact lV (by rw [if_pos (by omega), show (mem 47 (mem 94 t)).toNat = n.toNat by omega]; (repeat' split) <;> first | assumption | (exfalso; omega))
                · refine jblk hF [(.iload 5, 2)] (by decide +kernel) (pc' := 248) (lo' := [(0, (2, 35)), (1, (0, t)), (2, (0, w)), (3, (0, mem 94 t)), (4, (0, c0)), (5, (0, c1)), (6, (0, c2)), (7, (0, c3)), (8, (0, c4)), (9, (0, n))]) (st' := [(0, c1)]) rfl ?_
                  refine jgoto hF (off := 25) 273 (by decide +kernel) (by decide) ?_
                  refine jiret hF hr (by decide +kernel) ?_
                  exact lV (by rw [if_pos (by omega), show (mem 47 (mem 94 t)).toNat = n.toNat by omega]; (repeat' split) <;> first | assumption | (exfalso; omega))
              · refine jblk hF [(.iload 4, 2)] (by decide +kernel) (pc' := 238) (lo' := [(0, (2, 35)), (1, (0, t)), (2, (0, w)), (3, (0, mem 94 t)), (4, (0, c0)), (5, (0, c1)), (6, (0, c2)), (7, (0, c3)), (8, (0, c4)), (9, (0, n))]) (st' := [(0, c0)]) rfl ?_
                refine jgoto hF (off := 35) 273 (by decide +kernel) (by decide) ?_
                refine jiret hF hr (by decide +kernel) ?_
                exact lV (by rw [if_pos (by omega), show (mem 47 (mem 94 t)).toNat = n.toNat by omega]; (repeat' split) <;> first | assumption | (exfalso; omega))
            · have htd := hTD (40 * t + n) (by omega) (by omega)
              refine jblk hF [(.aload_n 0, 1)] (by decide +kernel) (pc' := 76) (lo' := [(0, (2, 35)), (1, (0, t)), (2, (0, w)), (3, (0, mem 94 t)), (4, (0, c0)), (5, (0, c1)), (6, (0, c2)), (7, (0, c3)), (8, (0, c4)), (9, (0, n))]) (st' := [(2, 35)]) rfl ?_
              refine jget hF 13 83 2 83 rfl (by decide) (by decide) rfl wd_1546 (by decide +kernel) (by exact hS.k35) ?_
              rw [SR.r83 hR]
              refine jblk hF [(.bipush 40, 2), (.iload_n 1, 1), (.imul, 1), (.iload 9, 2), (.iadd, 1)] (by decide +kernel) (pc' := 86) (lo' := [(0, (2, 35)), (1, (0, t)), (2, (0, w)), (3, (0, mem 94 t)), (4, (0, c0)), (5, (0, c1)), (6, (0, c2)), (7, (0, c3)), (8, (0, c4)), (9, (0, n))]) (st' := [(0, (40 * t) + n), (2, 96)]) rfl ?_
              refine jzald hF (by decide +kernel) (by exact hS.k96) (by omega) (by have := hS.l96; omega) ?_
              refine jif_ne hF (off := 6) 93 (by decide +kernel) (by decide) (by omega) (fun h_14 => ?_) (fun h_14 => ?_)
              · refine jblk hF [(.aload_n 0, 1)] (by decide +kernel) (pc' := 94) (lo' := [(0, (2, 35)), (1, (0, t)), (2, (0, w)), (3, (0, mem 94 t)), (4, (0, c0)), (5, (0, c1)), (6, (0, c2)), (7, (0, c3)), (8, (0, c4)), (9, (0, n))]) (st' := [(2, 35)]) rfl ?_
                refine jget hF 13 82 2 82 rfl (by decide) (by decide) rfl wd_1545 (by decide +kernel) (by exact hS.k35) ?_
                rw [SR.r82 hR]
                refine jblk hF [(.bipush 40, 2), (.iload_n 1, 1), (.imul, 1), (.iload 9, 2), (.iadd, 1)] (by decide +kernel) (pc' := 104) (lo' := [(0, (2, 35)), (1, (0, t)), (2, (0, w)), (3, (0, mem 94 t)), (4, (0, c0)), (5, (0, c1)), (6, (0, c2)), (7, (0, c3)), (8, (0, c4)), (9, (0, n))]) (st' := [(0, (40 * t) + n), (2, 95)]) rfl ?_
                refine jlald hF (by decide +kernel) (by exact hS.k95) (by omega) (by have := hS.l95; omega) ?_
                refine jblk hF [(.lstore 10, 2), (.aload_n 0, 1), (.iload_n 3, 1), (.iload 9, 2)] (by decide +kernel) (pc' := 111) (lo' := [(10, (1, mem 95 ((40 * t) + n))), (0, (2, 35)), (1, (0, t)), (2, (0, w)), (3, (0, mem 94 t)), (4, (0, c0)), (5, (0, c1)), (6, (0, c2)), (7, (0, c3)), (8, (0, c4)), (9, (0, n))]) (st' := [(0, n), (0, mem 94 t), (2, 35)]) rfl ?_
                refine jcallV hF (c_X12_rightOf hG hS hR (mem 94 t) n (by first | omega | exact hE.fPG hp | exact (EQ36.f _ _).fPG hp) (by first | omega | (rw [hE.at 47 (by decide)]; omega) | (rw [(EQ36.f 1 0 : EQ36 mem _).at 47 (by decide)]; omega))) MW_X12_rightOf 13 (by decide) (by exact hS.k35) wd_2031 wd_2033 wd_p88 (by decide +kernel) [] rfl rfl (by decide) (Nat.le_of_ble_eq_true rfl) (by decide) (kV ?_)
                refine jblk hF [(.lstore 12, 2), (.lload 10, 2), (.aload_n 0, 1), (.iload_n 3, 1), (.iload 9, 2)] (by decide +kernel) (pc' := 122) (lo' := [(12, (1, rightV mem (mem 94 t) n)), (10, (1, mem 95 ((40 * t) + n))), (0, (2, 35)), (1, (0, t)), (2, (0, w)), (3, (0, mem 94 t)), (4, (0, c0)), (5, (0, c1)), (6, (0, c2)), (7, (0, c3)), (8, (0, c4)), (9, (0, n))]) (st' := [(0, n), (0, mem 94 t), (2, 35), (1, mem 95 ((40 * t) + n))]) rfl ?_
                refine jcallV hF (c_X12_printedAt hG hS hR (mem 94 t) n (by omega) (by first | exact hPR | exact hPRc hPR) (by first | exact hPL | exact hPLc hPL)) MW_X12_printedAt 13 (by decide) (by exact hS.k35) wd_2170 wd_2172 wd_p99 (by decide +kernel) [(1, mem 95 ((40 * t) + n))] rfl rfl (by decide) (Nat.le_of_ble_eq_true rfl) (by decide) (kV ?_)
                refine jlcmpW_ne hF (off := 7) 133 (by decide +kernel) (by decide +kernel) (by decide) (fun h_15 => ?_) (fun h_15 => ?_)
                · refine jblk hF [(.iconst 0, 1), (.istore 14, 2), (.iinc 4 1, 3), (.iload 5, 2), (.iload 14, 2)] (by decide +kernel) (pc' := 143) (lo' := [(4, (0, c0 + 1)), (14, (0, 0)), (12, (1, rightV mem (mem 94 t) n)), (10, (1, mem 95 ((40 * t) + n))), (0, (2, 35)), (1, (0, t)), (2, (0, w)), (3, (0, mem 94 t)), (5, (0, c1)), (6, (0, c2)), (7, (0, c3)), (8, (0, c4)), (9, (0, n))]) (st' := [(0, 0), (0, c1)]) rfl ?_
                  refine jif_eq hF (off := 7) 150 (by decide +kernel) (by decide) (by decide) (fun _ => ?_) (fun h => absurd h (by decide))
                  refine jblk hF [(.iconst 0, 1), (.iadd, 1), (.istore 5, 2), (.iload 6, 2), (.iload 14, 2)] (by decide +kernel) (pc' := 158) (lo' := [(5, (0, c1 + 0)), (4, (0, c0 + 1)), (14, (0, 0)), (12, (1, rightV mem (mem 94 t) n)), (10, (1, mem 95 ((40 * t) + n))), (0, (2, 35)), (1, (0, t)), (2, (0, w)), (3, (0, mem 94 t)), (6, (0, c2)), (7, (0, c3)), (8, (0, c4)), (9, (0, n))]) (st' := [(0, 0), (0, c2)]) rfl ?_
                  refine jif_eq hF (off := 15) 173 (by decide +kernel) (by decide) (by decide) (fun _ => ?_) (fun h => absurd h (by decide))
                  refine jblk hF [(.iconst 0, 1), (.iadd, 1), (.istore 6, 2), (.iload 7, 2), (.aload_n 0, 1), (.iload_n 3, 1), (.iload 9, 2)] (by decide +kernel) (pc' := 183) (lo' := [(6, (0, c2 + 0)), (5, (0, c1 + 0)), (4, (0, c0 + 1)), (14, (0, 0)), (12, (1, rightV mem (mem 94 t) n)), (10, (1, mem 95 ((40 * t) + n))), (0, (2, 35)), (1, (0, t)), (2, (0, w)), (3, (0, mem 94 t)), (7, (0, c3)), (8, (0, c4)), (9, (0, n))]) (st' := [(0, n), (0, mem 94 t), (2, 35), (0, c3)]) rfl ?_
                  refine jcallV hF (c_X12_printedAt hG hS hR (mem 94 t) n (by omega) (by first | exact hPR | exact hPRc hPR) (by first | exact hPL | exact hPLc hPL)) MW_X12_printedAt 13 (by decide) (by exact hS.k35) wd_2170 wd_2172 wd_p99 (by decide +kernel) [(0, c3)] rfl rfl (by decide) (Nat.le_of_ble_eq_true rfl) (by decide) (kV ?_)
                  refine jblk hF [(.lload 12, 2)] (by decide +kernel) (pc' := 188) (lo' := [(6, (0, c2 + 0)), (5, (0, c1 + 0)), (4, (0, c0 + 1)), (14, (0, 0)), (12, (1, rightV mem (mem 94 t) n)), (10, (1, mem 95 ((40 * t) + n))), (0, (2, 35)), (1, (0, t)), (2, (0, w)), (3, (0, mem 94 t)), (7, (0, c3)), (8, (0, c4)), (9, (0, n))]) (st' := [(1, rightV mem (mem 94 t) n), (1, prtV mem (mem 94 t) n), (0, c3)]) rfl ?_
                  refine jlcmpW_eq hF (off := 15) 204 (by decide +kernel) (by decide +kernel) (by decide) (fun h_18 => ?_) (fun h_18 => ?_)
                  · refine jblk hF [(.iconst 0, 1), (.iadd, 1), (.istore 7, 2), (.iload 8, 2), (.lload 10, 2), (.lload 12, 2)] (by decide +kernel) (pc' := 214) (lo' := [(7, (0, c3 + 0)), (6, (0, c2 + 0)), (5, (0, c1 + 0)), (4, (0, c0 + 1)), (14, (0, 0)), (12, (1, rightV mem (mem 94 t) n)), (10, (1, mem 95 ((40 * t) + n))), (0, (2, 35)), (1, (0, t)), (2, (0, w)), (3, (0, mem 94 t)), (8, (0, c4)), (9, (0, n))]) (st' := [(1, rightV mem (mem 94 t) n), (1, mem 95 ((40 * t) + n)), (0, c4)]) rfl ?_
                    refine jlcmpW_ne hF (off := 7) 222 (by decide +kernel) (by decide +kernel) (by decide) (fun h_19 => ?_) (fun h_19 => ?_)
                    · refine jblk hF [(.iconst 0, 1), (.iadd, 1), (.istore 8, 2), (.iinc 9 1, 3)] (by decide +kernel) (pc' := 229) (lo' := [(9, (0, n + 1)), (8, (0, c4 + 0)), (7, (0, c3 + 0)), (6, (0, c2 + 0)), (5, (0, c1 + 0)), (4, (0, c0 + 1)), (14, (0, 0)), (12, (1, rightV mem (mem 94 t) n)), (10, (1, mem 95 ((40 * t) + n))), (0, (2, 35)), (1, (0, t)), (2, (0, w)), (3, (0, mem 94 t))]) (st' := []) rfl ?_
                      refine jgoto hF (off := (-165)) 64 (by decide +kernel) (by decide) ?_
                      refine jsub [9, 10, 11, 12, 5, 4, 3, 2, 1, 0] rfl ?_
                      refine ih_6 (c0 + 1) (c1 + 0) (c2 + 0) (c3 + 0) (c4 + 0) (n + 1) ?_ ?_ ?_ ?_ ?_ ?_ ?_
                      · omega
                      · rw [cq0_s (by omega)]; first | (rw [if_pos (by first | assumption | exact ⟨by assumption, by assumption⟩ | exact ⟨by assumption, by assumption, by assumption⟩ | omega)]; omega) | (rw [if_neg (by omega)]; omega)
                      · rw [cq1_s (by omega)]; first | (rw [if_pos (by first | assumption | exact ⟨by assumption, by assumption⟩ | exact ⟨by assumption, by assumption, by assumption⟩ | omega)]; omega) | (rw [if_neg (by omega)]; omega)
                      · rw [cq2_s (by omega)]; first | (rw [if_pos (by first | assumption | exact ⟨by assumption, by assumption⟩ | exact ⟨by assumption, by assumption, by assumption⟩ | omega)]; omega) | (rw [if_neg (by omega)]; omega)
                      · rw [cq3_s (by omega)]; first | (rw [if_pos (by first | assumption | exact ⟨by assumption, by assumption⟩ | exact ⟨by assumption, by assumption, by assumption⟩ | omega)]; omega) | (rw [if_neg (by omega)]; omega)
                      · rw [cq4_s (by omega)]; first | (rw [if_pos (by first | assumption | exact ⟨by assumption, by assumption⟩ | exact ⟨by assumption, by assumption, by assumption⟩ | omega)]; omega) | (rw [if_neg (by omega)]; omega)
                      · omega
                    · refine jblk hF [(.iconst 1, 1)] (by decide +kernel) (pc' := 219) (lo' := [(7, (0, c3 + 0)), (6, (0, c2 + 0)), (5, (0, c1 + 0)), (4, (0, c0 + 1)), (14, (0, 0)), (12, (1, rightV mem (mem 94 t) n)), (10, (1, mem 95 ((40 * t) + n))), (0, (2, 35)), (1, (0, t)), (2, (0, w)), (3, (0, mem 94 t)), (8, (0, c4)), (9, (0, n))]) (st' := [(0, 1), (0, c4)]) rfl ?_
                      refine jgoto hF (off := 4) 223 (by decide +kernel) (by decide) ?_
                      refine jblk hF [(.iadd, 1), (.istore 8, 2), (.iinc 9 1, 3)] (by decide +kernel) (pc' := 229) (lo' := [(9, (0, n + 1)), (8, (0, c4 + 1)), (7, (0, c3 + 0)), (6, (0, c2 + 0)), (5, (0, c1 + 0)), (4, (0, c0 + 1)), (14, (0, 0)), (12, (1, rightV mem (mem 94 t) n)), (10, (1, mem 95 ((40 * t) + n))), (0, (2, 35)), (1, (0, t)), (2, (0, w)), (3, (0, mem 94 t))]) (st' := []) rfl ?_
                      refine jgoto hF (off := (-165)) 64 (by decide +kernel) (by decide) ?_
                      refine jsub [9, 10, 11, 12, 5, 4, 3, 2, 1, 0] rfl ?_
                      refine ih_6 (c0 + 1) (c1 + 0) (c2 + 0) (c3 + 0) (c4 + 1) (n + 1) ?_ ?_ ?_ ?_ ?_ ?_ ?_
                      · omega
                      · rw [cq0_s (by omega)]; first | (rw [if_pos (by first | assumption | exact ⟨by assumption, by assumption⟩ | exact ⟨by assumption, by assumption, by assumption⟩ | omega)]; omega) | (rw [if_neg (by omega)]; omega)
                      · rw [cq1_s (by omega)]; first | (rw [if_pos (by first | assumption | exact ⟨by assumption, by assumption⟩ | exact ⟨by assumption, by assumption, by assumption⟩ | omega)]; omega) | (rw [if_neg (by omega)]; omega)
                      · rw [cq2_s (by omega)]; first | (rw [if_pos (by first | assumption | exact ⟨by assumption, by assumption⟩ | exact ⟨by assumption, by assumption, by assumption⟩ | omega)]; omega) | (rw [if_neg (by omega)]; omega)
                      · rw [cq3_s (by omega)]; first | (rw [if_pos (by first | assumption | exact ⟨by assumption, by assumption⟩ | exact ⟨by assumption, by assumption, by assumption⟩ | omega)]; omega) | (rw [if_neg (by omega)]; omega)
                      · rw [cq4_s (by omega)]; first | (rw [if_pos (by first | assumption | exact ⟨by assumption, by assumption⟩ | exact ⟨by assumption, by assumption, by assumption⟩ | omega)]; omega) | (rw [if_neg (by omega)]; omega)
                      · omega
                  · refine jblk hF [(.lload 10, 2), (.lload 12, 2)] (by decide +kernel) (pc' := 196) (lo' := [(6, (0, c2 + 0)), (5, (0, c1 + 0)), (4, (0, c0 + 1)), (14, (0, 0)), (12, (1, rightV mem (mem 94 t) n)), (10, (1, mem 95 ((40 * t) + n))), (0, (2, 35)), (1, (0, t)), (2, (0, w)), (3, (0, mem 94 t)), (7, (0, c3)), (8, (0, c4)), (9, (0, n))]) (st' := [(1, rightV mem (mem 94 t) n), (1, mem 95 ((40 * t) + n)), (0, c3)]) rfl ?_
                    refine jlcmpW_ne hF (off := 7) 204 (by decide +kernel) (by decide +kernel) (by decide) (fun h_20 => ?_) (fun h_20 => ?_)
                    · refine jblk hF [(.iconst 0, 1), (.iadd, 1), (.istore 7, 2), (.iload 8, 2), (.lload 10, 2), (.lload 12, 2)] (by decide +kernel) (pc' := 214) (lo' := [(7, (0, c3 + 0)), (6, (0, c2 + 0)), (5, (0, c1 + 0)), (4, (0, c0 + 1)), (14, (0, 0)), (12, (1, rightV mem (mem 94 t) n)), (10, (1, mem 95 ((40 * t) + n))), (0, (2, 35)), (1, (0, t)), (2, (0, w)), (3, (0, mem 94 t)), (8, (0, c4)), (9, (0, n))]) (st' := [(1, rightV mem (mem 94 t) n), (1, mem 95 ((40 * t) + n)), (0, c4)]) rfl ?_
                      refine jlcmpW_ne hF (off := 7) 222 (by decide +kernel) (by decide +kernel) (by decide) (fun h_21 => ?_) (fun h_21 => ?_)
                      · refine jblk hF [(.iconst 0, 1), (.iadd, 1), (.istore 8, 2), (.iinc 9 1, 3)] (by decide +kernel) (pc' := 229) (lo' := [(9, (0, n + 1)), (8, (0, c4 + 0)), (7, (0, c3 + 0)), (6, (0, c2 + 0)), (5, (0, c1 + 0)), (4, (0, c0 + 1)), (14, (0, 0)), (12, (1, rightV mem (mem 94 t) n)), (10, (1, mem 95 ((40 * t) + n))), (0, (2, 35)), (1, (0, t)), (2, (0, w)), (3, (0, mem 94 t))]) (st' := []) rfl ?_
                        refine jgoto hF (off := (-165)) 64 (by decide +kernel) (by decide) ?_
                        refine jsub [9, 10, 11, 12, 5, 4, 3, 2, 1, 0] rfl ?_
                        refine ih_6 (c0 + 1) (c1 + 0) (c2 + 0) (c3 + 0) (c4 + 0) (n + 1) ?_ ?_ ?_ ?_ ?_ ?_ ?_
                        · omega
                        · rw [cq0_s (by omega)]; first | (rw [if_pos (by first | assumption | exact ⟨by assumption, by assumption⟩ | exact ⟨by assumption, by assumption, by assumption⟩ | omega)]; omega) | (rw [if_neg (by omega)]; omega)
                        · rw [cq1_s (by omega)]; first | (rw [if_pos (by first | assumption | exact ⟨by assumption, by assumption⟩ | exact ⟨by assumption, by assumption, by assumption⟩ | omega)]; omega) | (rw [if_neg (by omega)]; omega)
                        · rw [cq2_s (by omega)]; first | (rw [if_pos (by first | assumption | exact ⟨by assumption, by assumption⟩ | exact ⟨by assumption, by assumption, by assumption⟩ | omega)]; omega) | (rw [if_neg (by omega)]; omega)
                        · rw [cq3_s (by omega)]; first | (rw [if_pos (by first | assumption | exact ⟨by assumption, by assumption⟩ | exact ⟨by assumption, by assumption, by assumption⟩ | omega)]; omega) | (rw [if_neg (by omega)]; omega)
                        · rw [cq4_s (by omega)]; first | (rw [if_pos (by first | assumption | exact ⟨by assumption, by assumption⟩ | exact ⟨by assumption, by assumption, by assumption⟩ | omega)]; omega) | (rw [if_neg (by omega)]; omega)
                        · omega
                      · refine jblk hF [(.iconst 1, 1)] (by decide +kernel) (pc' := 219) (lo' := [(7, (0, c3 + 0)), (6, (0, c2 + 0)), (5, (0, c1 + 0)), (4, (0, c0 + 1)), (14, (0, 0)), (12, (1, rightV mem (mem 94 t) n)), (10, (1, mem 95 ((40 * t) + n))), (0, (2, 35)), (1, (0, t)), (2, (0, w)), (3, (0, mem 94 t)), (8, (0, c4)), (9, (0, n))]) (st' := [(0, 1), (0, c4)]) rfl ?_
                        refine jgoto hF (off := 4) 223 (by decide +kernel) (by decide) ?_
                        refine jblk hF [(.iadd, 1), (.istore 8, 2), (.iinc 9 1, 3)] (by decide +kernel) (pc' := 229) (lo' := [(9, (0, n + 1)), (8, (0, c4 + 1)), (7, (0, c3 + 0)), (6, (0, c2 + 0)), (5, (0, c1 + 0)), (4, (0, c0 + 1)), (14, (0, 0)), (12, (1, rightV mem (mem 94 t) n)), (10, (1, mem 95 ((40 * t) + n))), (0, (2, 35)), (1, (0, t)), (2, (0, w)), (3, (0, mem 94 t))]) (st' := []) rfl ?_
                        refine jgoto hF (off := (-165)) 64 (by decide +kernel) (by decide) ?_
                        refine jsub [9, 10, 11, 12, 5, 4, 3, 2, 1, 0] rfl ?_
                        refine ih_6 (c0 + 1) (c1 + 0) (c2 + 0) (c3 + 0) (c4 + 1) (n + 1) ?_ ?_ ?_ ?_ ?_ ?_ ?_
                        · omega
                        · rw [cq0_s (by omega)]; first | (rw [if_pos (by first | assumption | exact ⟨by assumption, by assumption⟩ | exact ⟨by assumption, by assumption, by assumption⟩ | omega)]; omega) | (rw [if_neg (by omega)]; omega)
                        · rw [cq1_s (by omega)]; first | (rw [if_pos (by first | assumption | exact ⟨by assumption, by assumption⟩ | exact ⟨by assumption, by assumption, by assumption⟩ | omega)]; omega) | (rw [if_neg (by omega)]; omega)
                        · rw [cq2_s (by omega)]; first | (rw [if_pos (by first | assumption | exact ⟨by assumption, by assumption⟩ | exact ⟨by assumption, by assumption, by assumption⟩ | omega)]; omega) | (rw [if_neg (by omega)]; omega)
                        · rw [cq3_s (by omega)]; first | (rw [if_pos (by first | assumption | exact ⟨by assumption, by assumption⟩ | exact ⟨by assumption, by assumption, by assumption⟩ | omega)]; omega) | (rw [if_neg (by omega)]; omega)
                        · rw [cq4_s (by omega)]; first | (rw [if_pos (by first | assumption | exact ⟨by assumption, by assumption⟩ | exact ⟨by assumption, by assumption, by assumption⟩ | omega)]; omega) | (rw [if_neg (by omega)]; omega)
                        · omega
                    · refine jblk hF [(.iconst 1, 1)] (by decide +kernel) (pc' := 201) (lo' := [(6, (0, c2 + 0)), (5, (0, c1 + 0)), (4, (0, c0 + 1)), (14, (0, 0)), (12, (1, rightV mem (mem 94 t) n)), (10, (1, mem 95 ((40 * t) + n))), (0, (2, 35)), (1, (0, t)), (2, (0, w)), (3, (0, mem 94 t)), (7, (0, c3)), (8, (0, c4)), (9, (0, n))]) (st' := [(0, 1), (0, c3)]) rfl ?_
                      refine jgoto hF (off := 4) 205 (by decide +kernel) (by decide) ?_
                      refine jblk hF [(.iadd, 1), (.istore 7, 2), (.iload 8, 2), (.lload 10, 2), (.lload 12, 2)] (by decide +kernel) (pc' := 214) (lo' := [(7, (0, c3 + 1)), (6, (0, c2 + 0)), (5, (0, c1 + 0)), (4, (0, c0 + 1)), (14, (0, 0)), (12, (1, rightV mem (mem 94 t) n)), (10, (1, mem 95 ((40 * t) + n))), (0, (2, 35)), (1, (0, t)), (2, (0, w)), (3, (0, mem 94 t)), (8, (0, c4)), (9, (0, n))]) (st' := [(1, rightV mem (mem 94 t) n), (1, mem 95 ((40 * t) + n)), (0, c4)]) rfl ?_
                      refine jlcmpW_ne hF (off := 7) 222 (by decide +kernel) (by decide +kernel) (by decide) (fun h_22 => ?_) (fun h_22 => ?_)
                      · refine jblk hF [(.iconst 0, 1), (.iadd, 1), (.istore 8, 2), (.iinc 9 1, 3)] (by decide +kernel) (pc' := 229) (lo' := [(9, (0, n + 1)), (8, (0, c4 + 0)), (7, (0, c3 + 1)), (6, (0, c2 + 0)), (5, (0, c1 + 0)), (4, (0, c0 + 1)), (14, (0, 0)), (12, (1, rightV mem (mem 94 t) n)), (10, (1, mem 95 ((40 * t) + n))), (0, (2, 35)), (1, (0, t)), (2, (0, w)), (3, (0, mem 94 t))]) (st' := []) rfl ?_
                        refine jgoto hF (off := (-165)) 64 (by decide +kernel) (by decide) ?_
                        refine jsub [9, 10, 11, 12, 5, 4, 3, 2, 1, 0] rfl ?_
                        refine ih_6 (c0 + 1) (c1 + 0) (c2 + 0) (c3 + 1) (c4 + 0) (n + 1) ?_ ?_ ?_ ?_ ?_ ?_ ?_
                        · omega
                        · rw [cq0_s (by omega)]; first | (rw [if_pos (by first | assumption | exact ⟨by assumption, by assumption⟩ | exact ⟨by assumption, by assumption, by assumption⟩ | omega)]; omega) | (rw [if_neg (by omega)]; omega)
                        · rw [cq1_s (by omega)]; first | (rw [if_pos (by first | assumption | exact ⟨by assumption, by assumption⟩ | exact ⟨by assumption, by assumption, by assumption⟩ | omega)]; omega) | (rw [if_neg (by omega)]; omega)
                        · rw [cq2_s (by omega)]; first | (rw [if_pos (by first | assumption | exact ⟨by assumption, by assumption⟩ | exact ⟨by assumption, by assumption, by assumption⟩ | omega)]; omega) | (rw [if_neg (by omega)]; omega)
                        · rw [cq3_s (by omega)]; first | (rw [if_pos (by first | assumption | exact ⟨by assumption, by assumption⟩ | exact ⟨by assumption, by assumption, by assumption⟩ | omega)]; omega) | (rw [if_neg (by omega)]; omega)
                        · rw [cq4_s (by omega)]; first | (rw [if_pos (by first | assumption | exact ⟨by assumption, by assumption⟩ | exact ⟨by assumption, by assumption, by assumption⟩ | omega)]; omega) | (rw [if_neg (by omega)]; omega)
                        · omega
                      · refine jblk hF [(.iconst 1, 1)] (by decide +kernel) (pc' := 219) (lo' := [(7, (0, c3 + 1)), (6, (0, c2 + 0)), (5, (0, c1 + 0)), (4, (0, c0 + 1)), (14, (0, 0)), (12, (1, rightV mem (mem 94 t) n)), (10, (1, mem 95 ((40 * t) + n))), (0, (2, 35)), (1, (0, t)), (2, (0, w)), (3, (0, mem 94 t)), (8, (0, c4)), (9, (0, n))]) (st' := [(0, 1), (0, c4)]) rfl ?_
                        refine jgoto hF (off := 4) 223 (by decide +kernel) (by decide) ?_
                        refine jblk hF [(.iadd, 1), (.istore 8, 2), (.iinc 9 1, 3)] (by decide +kernel) (pc' := 229) (lo' := [(9, (0, n + 1)), (8, (0, c4 + 1)), (7, (0, c3 + 1)), (6, (0, c2 + 0)), (5, (0, c1 + 0)), (4, (0, c0 + 1)), (14, (0, 0)), (12, (1, rightV mem (mem 94 t) n)), (10, (1, mem 95 ((40 * t) + n))), (0, (2, 35)), (1, (0, t)), (2, (0, w)), (3, (0, mem 94 t))]) (st' := []) rfl ?_
                        refine jgoto hF (off := (-165)) 64 (by decide +kernel) (by decide) ?_
                        refine jsub [9, 10, 11, 12, 5, 4, 3, 2, 1, 0] rfl ?_
                        refine ih_6 (c0 + 1) (c1 + 0) (c2 + 0) (c3 + 1) (c4 + 1) (n + 1) ?_ ?_ ?_ ?_ ?_ ?_ ?_
                        · omega
                        · rw [cq0_s (by omega)]; first | (rw [if_pos (by first | assumption | exact ⟨by assumption, by assumption⟩ | exact ⟨by assumption, by assumption, by assumption⟩ | omega)]; omega) | (rw [if_neg (by omega)]; omega)
                        · rw [cq1_s (by omega)]; first | (rw [if_pos (by first | assumption | exact ⟨by assumption, by assumption⟩ | exact ⟨by assumption, by assumption, by assumption⟩ | omega)]; omega) | (rw [if_neg (by omega)]; omega)
                        · rw [cq2_s (by omega)]; first | (rw [if_pos (by first | assumption | exact ⟨by assumption, by assumption⟩ | exact ⟨by assumption, by assumption, by assumption⟩ | omega)]; omega) | (rw [if_neg (by omega)]; omega)
                        · rw [cq3_s (by omega)]; first | (rw [if_pos (by first | assumption | exact ⟨by assumption, by assumption⟩ | exact ⟨by assumption, by assumption, by assumption⟩ | omega)]; omega) | (rw [if_neg (by omega)]; omega)
                        · rw [cq4_s (by omega)]; first | (rw [if_pos (by first | assumption | exact ⟨by assumption, by assumption⟩ | exact ⟨by assumption, by assumption, by assumption⟩ | omega)]; omega) | (rw [if_neg (by omega)]; omega)
                        · omega
                · refine jblk hF [(.iconst 1, 1)] (by decide +kernel) (pc' := 130) (lo' := [(12, (1, rightV mem (mem 94 t) n)), (10, (1, mem 95 ((40 * t) + n))), (0, (2, 35)), (1, (0, t)), (2, (0, w)), (3, (0, mem 94 t)), (4, (0, c0)), (5, (0, c1)), (6, (0, c2)), (7, (0, c3)), (8, (0, c4)), (9, (0, n))]) (st' := [(0, 1)]) rfl ?_
                  refine jgoto hF (off := 4) 134 (by decide +kernel) (by decide) ?_
                  refine jblk hF [(.istore 14, 2), (.iinc 4 1, 3), (.iload 5, 2), (.iload 14, 2)] (by decide +kernel) (pc' := 143) (lo' := [(4, (0, c0 + 1)), (14, (0, 1)), (12, (1, rightV mem (mem 94 t) n)), (10, (1, mem 95 ((40 * t) + n))), (0, (2, 35)), (1, (0, t)), (2, (0, w)), (3, (0, mem 94 t)), (5, (0, c1)), (6, (0, c2)), (7, (0, c3)), (8, (0, c4)), (9, (0, n))]) (st' := [(0, 1), (0, c1)]) rfl ?_
                  refine jif_eq hF (off := 7) 150 (by decide +kernel) (by decide) (by decide) (fun h => absurd h (by decide)) (fun _ => ?_)
                  refine jblk hF [(.iconst 1, 1)] (by decide +kernel) (pc' := 147) (lo' := [(4, (0, c0 + 1)), (14, (0, 1)), (12, (1, rightV mem (mem 94 t) n)), (10, (1, mem 95 ((40 * t) + n))), (0, (2, 35)), (1, (0, t)), (2, (0, w)), (3, (0, mem 94 t)), (5, (0, c1)), (6, (0, c2)), (7, (0, c3)), (8, (0, c4)), (9, (0, n))]) (st' := [(0, 1), (0, c1)]) rfl ?_
                  refine jgoto hF (off := 4) 151 (by decide +kernel) (by decide) ?_
                  refine jblk hF [(.iadd, 1), (.istore 5, 2), (.iload 6, 2), (.iload 14, 2)] (by decide +kernel) (pc' := 158) (lo' := [(5, (0, c1 + 1)), (4, (0, c0 + 1)), (14, (0, 1)), (12, (1, rightV mem (mem 94 t) n)), (10, (1, mem 95 ((40 * t) + n))), (0, (2, 35)), (1, (0, t)), (2, (0, w)), (3, (0, mem 94 t)), (6, (0, c2)), (7, (0, c3)), (8, (0, c4)), (9, (0, n))]) (st' := [(0, 1), (0, c2)]) rfl ?_
                  refine jif_eq hF (off := 15) 173 (by decide +kernel) (by decide) (by decide) (fun h => absurd h (by decide)) (fun _ => ?_)
                  refine jblk hF [(.lload 10, 2), (.lload 12, 2)] (by decide +kernel) (pc' := 165) (lo' := [(5, (0, c1 + 1)), (4, (0, c0 + 1)), (14, (0, 1)), (12, (1, rightV mem (mem 94 t) n)), (10, (1, mem 95 ((40 * t) + n))), (0, (2, 35)), (1, (0, t)), (2, (0, w)), (3, (0, mem 94 t)), (6, (0, c2)), (7, (0, c3)), (8, (0, c4)), (9, (0, n))]) (st' := [(1, rightV mem (mem 94 t) n), (1, mem 95 ((40 * t) + n)), (0, c2)]) rfl ?_
                  refine jlcmpW_eq hF (off := 7) 173 (by decide +kernel) (by decide +kernel) (by decide) (fun h_25 => ?_) (fun h_25 => ?_)
                  · refine jblk hF [(.iconst 0, 1), (.iadd, 1), (.istore 6, 2), (.iload 7, 2), (.aload_n 0, 1), (.iload_n 3, 1), (.iload 9, 2)] (by decide +kernel) (pc' := 183) (lo' := [(6, (0, c2 + 0)), (5, (0, c1 + 1)), (4, (0, c0 + 1)), (14, (0, 1)), (12, (1, rightV mem (mem 94 t) n)), (10, (1, mem 95 ((40 * t) + n))), (0, (2, 35)), (1, (0, t)), (2, (0, w)), (3, (0, mem 94 t)), (7, (0, c3)), (8, (0, c4)), (9, (0, n))]) (st' := [(0, n), (0, mem 94 t), (2, 35), (0, c3)]) rfl ?_
                    refine jcallV hF (c_X12_printedAt hG hS hR (mem 94 t) n (by omega) (by first | exact hPR | exact hPRc hPR) (by first | exact hPL | exact hPLc hPL)) MW_X12_printedAt 13 (by decide) (by exact hS.k35) wd_2170 wd_2172 wd_p99 (by decide +kernel) [(0, c3)] rfl rfl (by decide) (Nat.le_of_ble_eq_true rfl) (by decide) (kV ?_)
                    refine jblk hF [(.lload 12, 2)] (by decide +kernel) (pc' := 188) (lo' := [(6, (0, c2 + 0)), (5, (0, c1 + 1)), (4, (0, c0 + 1)), (14, (0, 1)), (12, (1, rightV mem (mem 94 t) n)), (10, (1, mem 95 ((40 * t) + n))), (0, (2, 35)), (1, (0, t)), (2, (0, w)), (3, (0, mem 94 t)), (7, (0, c3)), (8, (0, c4)), (9, (0, n))]) (st' := [(1, rightV mem (mem 94 t) n), (1, prtV mem (mem 94 t) n), (0, c3)]) rfl ?_
                    refine jlcmpW_eq hF (off := 15) 204 (by decide +kernel) (by decide +kernel) (by decide) (fun h_26 => ?_) (fun h_26 => ?_)
                    · refine jblk hF [(.iconst 0, 1), (.iadd, 1), (.istore 7, 2), (.iload 8, 2), (.lload 10, 2), (.lload 12, 2)] (by decide +kernel) (pc' := 214) (lo' := [(7, (0, c3 + 0)), (6, (0, c2 + 0)), (5, (0, c1 + 1)), (4, (0, c0 + 1)), (14, (0, 1)), (12, (1, rightV mem (mem 94 t) n)), (10, (1, mem 95 ((40 * t) + n))), (0, (2, 35)), (1, (0, t)), (2, (0, w)), (3, (0, mem 94 t)), (8, (0, c4)), (9, (0, n))]) (st' := [(1, rightV mem (mem 94 t) n), (1, mem 95 ((40 * t) + n)), (0, c4)]) rfl ?_
                      refine jlcmpW_ne hF (off := 7) 222 (by decide +kernel) (by decide +kernel) (by decide) (fun h_27 => ?_) (fun h_27 => ?_)
                      · refine jblk hF [(.iconst 0, 1), (.iadd, 1), (.istore 8, 2), (.iinc 9 1, 3)] (by decide +kernel) (pc' := 229) (lo' := [(9, (0, n + 1)), (8, (0, c4 + 0)), (7, (0, c3 + 0)), (6, (0, c2 + 0)), (5, (0, c1 + 1)), (4, (0, c0 + 1)), (14, (0, 1)), (12, (1, rightV mem (mem 94 t) n)), (10, (1, mem 95 ((40 * t) + n))), (0, (2, 35)), (1, (0, t)), (2, (0, w)), (3, (0, mem 94 t))]) (st' := []) rfl ?_
                        refine jgoto hF (off := (-165)) 64 (by decide +kernel) (by decide) ?_
                        refine jsub [9, 10, 11, 12, 5, 4, 3, 2, 1, 0] rfl ?_
                        refine ih_6 (c0 + 1) (c1 + 1) (c2 + 0) (c3 + 0) (c4 + 0) (n + 1) ?_ ?_ ?_ ?_ ?_ ?_ ?_
                        · omega
                        · rw [cq0_s (by omega)]; first | (rw [if_pos (by first | assumption | exact ⟨by assumption, by assumption⟩ | exact ⟨by assumption, by assumption, by assumption⟩ | omega)]; omega) | (rw [if_neg (by omega)]; omega)
                        · rw [cq1_s (by omega)]; first | (rw [if_pos (by first | assumption | exact ⟨by assumption, by assumption⟩ | exact ⟨by assumption, by assumption, by assumption⟩ | omega)]; omega) | (rw [if_neg (by omega)]; omega)
                        · rw [cq2_s (by omega)]; first | (rw [if_pos (by first | assumption | exact ⟨by assumption, by assumption⟩ | exact ⟨by assumption, by assumption, by assumption⟩ | omega)]; omega) | (rw [if_neg (by omega)]; omega)
                        · rw [cq3_s (by omega)]; first | (rw [if_pos (by first | assumption | exact ⟨by assumption, by assumption⟩ | exact ⟨by assumption, by assumption, by assumption⟩ | omega)]; omega) | (rw [if_neg (by omega)]; omega)
                        · rw [cq4_s (by omega)]; first | (rw [if_pos (by first | assumption | exact ⟨by assumption, by assumption⟩ | exact ⟨by assumption, by assumption, by assumption⟩ | omega)]; omega) | (rw [if_neg (by omega)]; omega)
                        · omega
                      · refine jblk hF [(.iconst 1, 1)] (by decide +kernel) (pc' := 219) (lo' := [(7, (0, c3 + 0)), (6, (0, c2 + 0)), (5, (0, c1 + 1)), (4, (0, c0 + 1)), (14, (0, 1)), (12, (1, rightV mem (mem 94 t) n)), (10, (1, mem 95 ((40 * t) + n))), (0, (2, 35)), (1, (0, t)), (2, (0, w)), (3, (0, mem 94 t)), (8, (0, c4)), (9, (0, n))]) (st' := [(0, 1), (0, c4)]) rfl ?_
                        refine jgoto hF (off := 4) 223 (by decide +kernel) (by decide) ?_
                        refine jblk hF [(.iadd, 1), (.istore 8, 2), (.iinc 9 1, 3)] (by decide +kernel) (pc' := 229) (lo' := [(9, (0, n + 1)), (8, (0, c4 + 1)), (7, (0, c3 + 0)), (6, (0, c2 + 0)), (5, (0, c1 + 1)), (4, (0, c0 + 1)), (14, (0, 1)), (12, (1, rightV mem (mem 94 t) n)), (10, (1, mem 95 ((40 * t) + n))), (0, (2, 35)), (1, (0, t)), (2, (0, w)), (3, (0, mem 94 t))]) (st' := []) rfl ?_
                        refine jgoto hF (off := (-165)) 64 (by decide +kernel) (by decide) ?_
                        refine jsub [9, 10, 11, 12, 5, 4, 3, 2, 1, 0] rfl ?_
                        refine ih_6 (c0 + 1) (c1 + 1) (c2 + 0) (c3 + 0) (c4 + 1) (n + 1) ?_ ?_ ?_ ?_ ?_ ?_ ?_
                        · omega
                        · rw [cq0_s (by omega)]; first | (rw [if_pos (by first | assumption | exact ⟨by assumption, by assumption⟩ | exact ⟨by assumption, by assumption, by assumption⟩ | omega)]; omega) | (rw [if_neg (by omega)]; omega)
                        · rw [cq1_s (by omega)]; first | (rw [if_pos (by first | assumption | exact ⟨by assumption, by assumption⟩ | exact ⟨by assumption, by assumption, by assumption⟩ | omega)]; omega) | (rw [if_neg (by omega)]; omega)
                        · rw [cq2_s (by omega)]; first | (rw [if_pos (by first | assumption | exact ⟨by assumption, by assumption⟩ | exact ⟨by assumption, by assumption, by assumption⟩ | omega)]; omega) | (rw [if_neg (by omega)]; omega)
                        · rw [cq3_s (by omega)]; first | (rw [if_pos (by first | assumption | exact ⟨by assumption, by assumption⟩ | exact ⟨by assumption, by assumption, by assumption⟩ | omega)]; omega) | (rw [if_neg (by omega)]; omega)
                        · rw [cq4_s (by omega)]; first | (rw [if_pos (by first | assumption | exact ⟨by assumption, by assumption⟩ | exact ⟨by assumption, by assumption, by assumption⟩ | omega)]; omega) | (rw [if_neg (by omega)]; omega)
                        · omega
                    · refine jblk hF [(.lload 10, 2), (.lload 12, 2)] (by decide +kernel) (pc' := 196) (lo' := [(6, (0, c2 + 0)), (5, (0, c1 + 1)), (4, (0, c0 + 1)), (14, (0, 1)), (12, (1, rightV mem (mem 94 t) n)), (10, (1, mem 95 ((40 * t) + n))), (0, (2, 35)), (1, (0, t)), (2, (0, w)), (3, (0, mem 94 t)), (7, (0, c3)), (8, (0, c4)), (9, (0, n))]) (st' := [(1, rightV mem (mem 94 t) n), (1, mem 95 ((40 * t) + n)), (0, c3)]) rfl ?_
                      refine jlcmpW_ne hF (off := 7) 204 (by decide +kernel) (by decide +kernel) (by decide) (fun h_28 => ?_) (fun h_28 => ?_)
                      · refine jblk hF [(.iconst 0, 1), (.iadd, 1), (.istore 7, 2), (.iload 8, 2), (.lload 10, 2), (.lload 12, 2)] (by decide +kernel) (pc' := 214) (lo' := [(7, (0, c3 + 0)), (6, (0, c2 + 0)), (5, (0, c1 + 1)), (4, (0, c0 + 1)), (14, (0, 1)), (12, (1, rightV mem (mem 94 t) n)), (10, (1, mem 95 ((40 * t) + n))), (0, (2, 35)), (1, (0, t)), (2, (0, w)), (3, (0, mem 94 t)), (8, (0, c4)), (9, (0, n))]) (st' := [(1, rightV mem (mem 94 t) n), (1, mem 95 ((40 * t) + n)), (0, c4)]) rfl ?_
                        refine jlcmpW_ne hF (off := 7) 222 (by decide +kernel) (by decide +kernel) (by decide) (fun h_29 => ?_) (fun h_29 => ?_)
                        · refine jblk hF [(.iconst 0, 1), (.iadd, 1), (.istore 8, 2), (.iinc 9 1, 3)] (by decide +kernel) (pc' := 229) (lo' := [(9, (0, n + 1)), (8, (0, c4 + 0)), (7, (0, c3 + 0)), (6, (0, c2 + 0)), (5, (0, c1 + 1)), (4, (0, c0 + 1)), (14, (0, 1)), (12, (1, rightV mem (mem 94 t) n)), (10, (1, mem 95 ((40 * t) + n))), (0, (2, 35)), (1, (0, t)), (2, (0, w)), (3, (0, mem 94 t))]) (st' := []) rfl ?_
                          refine jgoto hF (off := (-165)) 64 (by decide +kernel) (by decide) ?_
                          refine jsub [9, 10, 11, 12, 5, 4, 3, 2, 1, 0] rfl ?_
                          refine ih_6 (c0 + 1) (c1 + 1) (c2 + 0) (c3 + 0) (c4 + 0) (n + 1) ?_ ?_ ?_ ?_ ?_ ?_ ?_
                          · omega
                          · rw [cq0_s (by omega)]; first | (rw [if_pos (by first | assumption | exact ⟨by assumption, by assumption⟩ | exact ⟨by assumption, by assumption, by assumption⟩ | omega)]; omega) | (rw [if_neg (by omega)]; omega)
                          · rw [cq1_s (by omega)]; first | (rw [if_pos (by first | assumption | exact ⟨by assumption, by assumption⟩ | exact ⟨by assumption, by assumption, by assumption⟩ | omega)]; omega) | (rw [if_neg (by omega)]; omega)
                          · rw [cq2_s (by omega)]; first | (rw [if_pos (by first | assumption | exact ⟨by assumption, by assumption⟩ | exact ⟨by assumption, by assumption, by assumption⟩ | omega)]; omega) | (rw [if_neg (by omega)]; omega)
                          · rw [cq3_s (by omega)]; first | (rw [if_pos (by first | assumption | exact ⟨by assumption, by assumption⟩ | exact ⟨by assumption, by assumption, by assumption⟩ | omega)]; omega) | (rw [if_neg (by omega)]; omega)
                          · rw [cq4_s (by omega)]; first | (rw [if_pos (by first | assumption | exact ⟨by assumption, by assumption⟩ | exact ⟨by assumption, by assumption, by assumption⟩ | omega)]; omega) | (rw [if_neg (by omega)]; omega)
                          · omega
                        · refine jblk hF [(.iconst 1, 1)] (by decide +kernel) (pc' := 219) (lo' := [(7, (0, c3 + 0)), (6, (0, c2 + 0)), (5, (0, c1 + 1)), (4, (0, c0 + 1)), (14, (0, 1)), (12, (1, rightV mem (mem 94 t) n)), (10, (1, mem 95 ((40 * t) + n))), (0, (2, 35)), (1, (0, t)), (2, (0, w)), (3, (0, mem 94 t)), (8, (0, c4)), (9, (0, n))]) (st' := [(0, 1), (0, c4)]) rfl ?_
                          refine jgoto hF (off := 4) 223 (by decide +kernel) (by decide) ?_
                          refine jblk hF [(.iadd, 1), (.istore 8, 2), (.iinc 9 1, 3)] (by decide +kernel) (pc' := 229) (lo' := [(9, (0, n + 1)), (8, (0, c4 + 1)), (7, (0, c3 + 0)), (6, (0, c2 + 0)), (5, (0, c1 + 1)), (4, (0, c0 + 1)), (14, (0, 1)), (12, (1, rightV mem (mem 94 t) n)), (10, (1, mem 95 ((40 * t) + n))), (0, (2, 35)), (1, (0, t)), (2, (0, w)), (3, (0, mem 94 t))]) (st' := []) rfl ?_
                          refine jgoto hF (off := (-165)) 64 (by decide +kernel) (by decide) ?_
                          refine jsub [9, 10, 11, 12, 5, 4, 3, 2, 1, 0] rfl ?_
                          refine ih_6 (c0 + 1) (c1 + 1) (c2 + 0) (c3 + 0) (c4 + 1) (n + 1) ?_ ?_ ?_ ?_ ?_ ?_ ?_
                          · omega
                          · rw [cq0_s (by omega)]; first | (rw [if_pos (by first | assumption | exact ⟨by assumption, by assumption⟩ | exact ⟨by assumption, by assumption, by assumption⟩ | omega)]; omega) | (rw [if_neg (by omega)]; omega)
                          · rw [cq1_s (by omega)]; first | (rw [if_pos (by first | assumption | exact ⟨by assumption, by assumption⟩ | exact ⟨by assumption, by assumption, by assumption⟩ | omega)]; omega) | (rw [if_neg (by omega)]; omega)
                          · rw [cq2_s (by omega)]; first | (rw [if_pos (by first | assumption | exact ⟨by assumption, by assumption⟩ | exact ⟨by assumption, by assumption, by assumption⟩ | omega)]; omega) | (rw [if_neg (by omega)]; omega)
                          · rw [cq3_s (by omega)]; first | (rw [if_pos (by first | assumption | exact ⟨by assumption, by assumption⟩ | exact ⟨by assumption, by assumption, by assumption⟩ | omega)]; omega) | (rw [if_neg (by omega)]; omega)
                          · rw [cq4_s (by omega)]; first | (rw [if_pos (by first | assumption | exact ⟨by assumption, by assumption⟩ | exact ⟨by assumption, by assumption, by assumption⟩ | omega)]; omega) | (rw [if_neg (by omega)]; omega)
                          · omega
                      · refine jblk hF [(.iconst 1, 1)] (by decide +kernel) (pc' := 201) (lo' := [(6, (0, c2 + 0)), (5, (0, c1 + 1)), (4, (0, c0 + 1)), (14, (0, 1)), (12, (1, rightV mem (mem 94 t) n)), (10, (1, mem 95 ((40 * t) + n))), (0, (2, 35)), (1, (0, t)), (2, (0, w)), (3, (0, mem 94 t)), (7, (0, c3)), (8, (0, c4)), (9, (0, n))]) (st' := [(0, 1), (0, c3)]) rfl ?_
                        refine jgoto hF (off := 4) 205 (by decide +kernel) (by decide) ?_
                        refine jblk hF [(.iadd, 1), (.istore 7, 2), (.iload 8, 2), (.lload 10, 2), (.lload 12, 2)] (by decide +kernel) (pc' := 214) (lo' := [(7, (0, c3 + 1)), (6, (0, c2 + 0)), (5, (0, c1 + 1)), (4, (0, c0 + 1)), (14, (0, 1)), (12, (1, rightV mem (mem 94 t) n)), (10, (1, mem 95 ((40 * t) + n))), (0, (2, 35)), (1, (0, t)), (2, (0, w)), (3, (0, mem 94 t)), (8, (0, c4)), (9, (0, n))]) (st' := [(1, rightV mem (mem 94 t) n), (1, mem 95 ((40 * t) + n)), (0, c4)]) rfl ?_
                        refine jlcmpW_ne hF (off := 7) 222 (by decide +kernel) (by decide +kernel) (by decide) (fun h_30 => ?_) (fun h_30 => ?_)
                        · refine jblk hF [(.iconst 0, 1), (.iadd, 1), (.istore 8, 2), (.iinc 9 1, 3)] (by decide +kernel) (pc' := 229) (lo' := [(9, (0, n + 1)), (8, (0, c4 + 0)), (7, (0, c3 + 1)), (6, (0, c2 + 0)), (5, (0, c1 + 1)), (4, (0, c0 + 1)), (14, (0, 1)), (12, (1, rightV mem (mem 94 t) n)), (10, (1, mem 95 ((40 * t) + n))), (0, (2, 35)), (1, (0, t)), (2, (0, w)), (3, (0, mem 94 t))]) (st' := []) rfl ?_
                          refine jgoto hF (off := (-165)) 64 (by decide +kernel) (by decide) ?_
                          refine jsub [9, 10, 11, 12, 5, 4, 3, 2, 1, 0] rfl ?_
                          refine ih_6 (c0 + 1) (c1 + 1) (c2 + 0) (c3 + 1) (c4 + 0) (n + 1) ?_ ?_ ?_ ?_ ?_ ?_ ?_
                          · omega
                          · rw [cq0_s (by omega)]; first | (rw [if_pos (by first | assumption | exact ⟨by assumption, by assumption⟩ | exact ⟨by assumption, by assumption, by assumption⟩ | omega)]; omega) | (rw [if_neg (by omega)]; omega)
                          · rw [cq1_s (by omega)]; first | (rw [if_pos (by first | assumption | exact ⟨by assumption, by assumption⟩ | exact ⟨by assumption, by assumption, by assumption⟩ | omega)]; omega) | (rw [if_neg (by omega)]; omega)
                          · rw [cq2_s (by omega)]; first | (rw [if_pos (by first | assumption | exact ⟨by assumption, by assumption⟩ | exact ⟨by assumption, by assumption, by assumption⟩ | omega)]; omega) | (rw [if_neg (by omega)]; omega)
                          · rw [cq3_s (by omega)]; first | (rw [if_pos (by first | assumption | exact ⟨by assumption, by assumption⟩ | exact ⟨by assumption, by assumption, by assumption⟩ | omega)]; omega) | (rw [if_neg (by omega)]; omega)
                          · rw [cq4_s (by omega)]; first | (rw [if_pos (by first | assumption | exact ⟨by assumption, by assumption⟩ | exact ⟨by assumption, by assumption, by assumption⟩ | omega)]; omega) | (rw [if_neg (by omega)]; omega)
                          · omega
                        · refine jblk hF [(.iconst 1, 1)] (by decide +kernel) (pc' := 219) (lo' := [(7, (0, c3 + 1)), (6, (0, c2 + 0)), (5, (0, c1 + 1)), (4, (0, c0 + 1)), (14, (0, 1)), (12, (1, rightV mem (mem 94 t) n)), (10, (1, mem 95 ((40 * t) + n))), (0, (2, 35)), (1, (0, t)), (2, (0, w)), (3, (0, mem 94 t)), (8, (0, c4)), (9, (0, n))]) (st' := [(0, 1), (0, c4)]) rfl ?_
                          refine jgoto hF (off := 4) 223 (by decide +kernel) (by decide) ?_
                          refine jblk hF [(.iadd, 1), (.istore 8, 2), (.iinc 9 1, 3)] (by decide +kernel) (pc' := 229) (lo' := [(9, (0, n + 1)), (8, (0, c4 + 1)), (7, (0, c3 + 1)), (6, (0, c2 + 0)), (5, (0, c1 + 1)), (4, (0, c0 + 1)), (14, (0, 1)), (12, (1, rightV mem (mem 94 t) n)), (10, (1, mem 95 ((40 * t) + n))), (0, (2, 35)), (1, (0, t)), (2, (0, w)), (3, (0, mem 94 t))]) (st' := []) rfl ?_
                          refine jgoto hF (off := (-165)) 64 (by decide +kernel) (by decide) ?_
                          refine jsub [9, 10, 11, 12, 5, 4, 3, 2, 1, 0] rfl ?_
                          refine ih_6 (c0 + 1) (c1 + 1) (c2 + 0) (c3 + 1) (c4 + 1) (n + 1) ?_ ?_ ?_ ?_ ?_ ?_ ?_
                          · omega
                          · rw [cq0_s (by omega)]; first | (rw [if_pos (by first | assumption | exact ⟨by assumption, by assumption⟩ | exact ⟨by assumption, by assumption, by assumption⟩ | omega)]; omega) | (rw [if_neg (by omega)]; omega)
                          · rw [cq1_s (by omega)]; first | (rw [if_pos (by first | assumption | exact ⟨by assumption, by assumption⟩ | exact ⟨by assumption, by assumption, by assumption⟩ | omega)]; omega) | (rw [if_neg (by omega)]; omega)
                          · rw [cq2_s (by omega)]; first | (rw [if_pos (by first | assumption | exact ⟨by assumption, by assumption⟩ | exact ⟨by assumption, by assumption, by assumption⟩ | omega)]; omega) | (rw [if_neg (by omega)]; omega)
                          · rw [cq3_s (by omega)]; first | (rw [if_pos (by first | assumption | exact ⟨by assumption, by assumption⟩ | exact ⟨by assumption, by assumption, by assumption⟩ | omega)]; omega) | (rw [if_neg (by omega)]; omega)
                          · rw [cq4_s (by omega)]; first | (rw [if_pos (by first | assumption | exact ⟨by assumption, by assumption⟩ | exact ⟨by assumption, by assumption, by assumption⟩ | omega)]; omega) | (rw [if_neg (by omega)]; omega)
                          · omega
                  · refine jblk hF [(.iconst 1, 1)] (by decide +kernel) (pc' := 170) (lo' := [(5, (0, c1 + 1)), (4, (0, c0 + 1)), (14, (0, 1)), (12, (1, rightV mem (mem 94 t) n)), (10, (1, mem 95 ((40 * t) + n))), (0, (2, 35)), (1, (0, t)), (2, (0, w)), (3, (0, mem 94 t)), (6, (0, c2)), (7, (0, c3)), (8, (0, c4)), (9, (0, n))]) (st' := [(0, 1), (0, c2)]) rfl ?_
                    refine jgoto hF (off := 4) 174 (by decide +kernel) (by decide) ?_
                    refine jblk hF [(.iadd, 1), (.istore 6, 2), (.iload 7, 2), (.aload_n 0, 1), (.iload_n 3, 1), (.iload 9, 2)] (by decide +kernel) (pc' := 183) (lo' := [(6, (0, c2 + 1)), (5, (0, c1 + 1)), (4, (0, c0 + 1)), (14, (0, 1)), (12, (1, rightV mem (mem 94 t) n)), (10, (1, mem 95 ((40 * t) + n))), (0, (2, 35)), (1, (0, t)), (2, (0, w)), (3, (0, mem 94 t)), (7, (0, c3)), (8, (0, c4)), (9, (0, n))]) (st' := [(0, n), (0, mem 94 t), (2, 35), (0, c3)]) rfl ?_
                    refine jcallV hF (c_X12_printedAt hG hS hR (mem 94 t) n (by omega) (by first | exact hPR | exact hPRc hPR) (by first | exact hPL | exact hPLc hPL)) MW_X12_printedAt 13 (by decide) (by exact hS.k35) wd_2170 wd_2172 wd_p99 (by decide +kernel) [(0, c3)] rfl rfl (by decide) (Nat.le_of_ble_eq_true rfl) (by decide) (kV ?_)
                    refine jblk hF [(.lload 12, 2)] (by decide +kernel) (pc' := 188) (lo' := [(6, (0, c2 + 1)), (5, (0, c1 + 1)), (4, (0, c0 + 1)), (14, (0, 1)), (12, (1, rightV mem (mem 94 t) n)), (10, (1, mem 95 ((40 * t) + n))), (0, (2, 35)), (1, (0, t)), (2, (0, w)), (3, (0, mem 94 t)), (7, (0, c3)), (8, (0, c4)), (9, (0, n))]) (st' := [(1, rightV mem (mem 94 t) n), (1, prtV mem (mem 94 t) n), (0, c3)]) rfl ?_
                    refine jlcmpW_eq hF (off := 15) 204 (by decide +kernel) (by decide +kernel) (by decide) (fun h_31 => ?_) (fun h_31 => ?_)
                    · refine jblk hF [(.iconst 0, 1), (.iadd, 1), (.istore 7, 2), (.iload 8, 2), (.lload 10, 2), (.lload 12, 2)] (by decide +kernel) (pc' := 214) (lo' := [(7, (0, c3 + 0)), (6, (0, c2 + 1)), (5, (0, c1 + 1)), (4, (0, c0 + 1)), (14, (0, 1)), (12, (1, rightV mem (mem 94 t) n)), (10, (1, mem 95 ((40 * t) + n))), (0, (2, 35)), (1, (0, t)), (2, (0, w)), (3, (0, mem 94 t)), (8, (0, c4)), (9, (0, n))]) (st' := [(1, rightV mem (mem 94 t) n), (1, mem 95 ((40 * t) + n)), (0, c4)]) rfl ?_
                      refine jlcmpW_ne hF (off := 7) 222 (by decide +kernel) (by decide +kernel) (by decide) (fun h_32 => ?_) (fun h_32 => ?_)
                      · refine jblk hF [(.iconst 0, 1), (.iadd, 1), (.istore 8, 2), (.iinc 9 1, 3)] (by decide +kernel) (pc' := 229) (lo' := [(9, (0, n + 1)), (8, (0, c4 + 0)), (7, (0, c3 + 0)), (6, (0, c2 + 1)), (5, (0, c1 + 1)), (4, (0, c0 + 1)), (14, (0, 1)), (12, (1, rightV mem (mem 94 t) n)), (10, (1, mem 95 ((40 * t) + n))), (0, (2, 35)), (1, (0, t)), (2, (0, w)), (3, (0, mem 94 t))]) (st' := []) rfl ?_
                        refine jgoto hF (off := (-165)) 64 (by decide +kernel) (by decide) ?_
                        refine jsub [9, 10, 11, 12, 5, 4, 3, 2, 1, 0] rfl ?_
                        refine ih_6 (c0 + 1) (c1 + 1) (c2 + 1) (c3 + 0) (c4 + 0) (n + 1) ?_ ?_ ?_ ?_ ?_ ?_ ?_
                        · omega
                        · rw [cq0_s (by omega)]; first | (rw [if_pos (by first | assumption | exact ⟨by assumption, by assumption⟩ | exact ⟨by assumption, by assumption, by assumption⟩ | omega)]; omega) | (rw [if_neg (by omega)]; omega)
                        · rw [cq1_s (by omega)]; first | (rw [if_pos (by first | assumption | exact ⟨by assumption, by assumption⟩ | exact ⟨by assumption, by assumption, by assumption⟩ | omega)]; omega) | (rw [if_neg (by omega)]; omega)
                        · rw [cq2_s (by omega)]; first | (rw [if_pos (by first | assumption | exact ⟨by assumption, by assumption⟩ | exact ⟨by assumption, by assumption, by assumption⟩ | omega)]; omega) | (rw [if_neg (by omega)]; omega)
                        · rw [cq3_s (by omega)]; first | (rw [if_pos (by first | assumption | exact ⟨by assumption, by assumption⟩ | exact ⟨by assumption, by assumption, by assumption⟩ | omega)]; omega) | (rw [if_neg (by omega)]; omega)
                        · rw [cq4_s (by omega)]; first | (rw [if_pos (by first | assumption | exact ⟨by assumption, by assumption⟩ | exact ⟨by assumption, by assumption, by assumption⟩ | omega)]; omega) | (rw [if_neg (by omega)]; omega)
                        · omega
                      · refine jblk hF [(.iconst 1, 1)] (by decide +kernel) (pc' := 219) (lo' := [(7, (0, c3 + 0)), (6, (0, c2 + 1)), (5, (0, c1 + 1)), (4, (0, c0 + 1)), (14, (0, 1)), (12, (1, rightV mem (mem 94 t) n)), (10, (1, mem 95 ((40 * t) + n))), (0, (2, 35)), (1, (0, t)), (2, (0, w)), (3, (0, mem 94 t)), (8, (0, c4)), (9, (0, n))]) (st' := [(0, 1), (0, c4)]) rfl ?_
                        refine jgoto hF (off := 4) 223 (by decide +kernel) (by decide) ?_
                        refine jblk hF [(.iadd, 1), (.istore 8, 2), (.iinc 9 1, 3)] (by decide +kernel) (pc' := 229) (lo' := [(9, (0, n + 1)), (8, (0, c4 + 1)), (7, (0, c3 + 0)), (6, (0, c2 + 1)), (5, (0, c1 + 1)), (4, (0, c0 + 1)), (14, (0, 1)), (12, (1, rightV mem (mem 94 t) n)), (10, (1, mem 95 ((40 * t) + n))), (0, (2, 35)), (1, (0, t)), (2, (0, w)), (3, (0, mem 94 t))]) (st' := []) rfl ?_
                        refine jgoto hF (off := (-165)) 64 (by decide +kernel) (by decide) ?_
                        refine jsub [9, 10, 11, 12, 5, 4, 3, 2, 1, 0] rfl ?_
                        refine ih_6 (c0 + 1) (c1 + 1) (c2 + 1) (c3 + 0) (c4 + 1) (n + 1) ?_ ?_ ?_ ?_ ?_ ?_ ?_
                        · omega
                        · rw [cq0_s (by omega)]; first | (rw [if_pos (by first | assumption | exact ⟨by assumption, by assumption⟩ | exact ⟨by assumption, by assumption, by assumption⟩ | omega)]; omega) | (rw [if_neg (by omega)]; omega)
                        · rw [cq1_s (by omega)]; first | (rw [if_pos (by first | assumption | exact ⟨by assumption, by assumption⟩ | exact ⟨by assumption, by assumption, by assumption⟩ | omega)]; omega) | (rw [if_neg (by omega)]; omega)
                        · rw [cq2_s (by omega)]; first | (rw [if_pos (by first | assumption | exact ⟨by assumption, by assumption⟩ | exact ⟨by assumption, by assumption, by assumption⟩ | omega)]; omega) | (rw [if_neg (by omega)]; omega)
                        · rw [cq3_s (by omega)]; first | (rw [if_pos (by first | assumption | exact ⟨by assumption, by assumption⟩ | exact ⟨by assumption, by assumption, by assumption⟩ | omega)]; omega) | (rw [if_neg (by omega)]; omega)
                        · rw [cq4_s (by omega)]; first | (rw [if_pos (by first | assumption | exact ⟨by assumption, by assumption⟩ | exact ⟨by assumption, by assumption, by assumption⟩ | omega)]; omega) | (rw [if_neg (by omega)]; omega)
                        · omega
                    · refine jblk hF [(.lload 10, 2), (.lload 12, 2)] (by decide +kernel) (pc' := 196) (lo' := [(6, (0, c2 + 1)), (5, (0, c1 + 1)), (4, (0, c0 + 1)), (14, (0, 1)), (12, (1, rightV mem (mem 94 t) n)), (10, (1, mem 95 ((40 * t) + n))), (0, (2, 35)), (1, (0, t)), (2, (0, w)), (3, (0, mem 94 t)), (7, (0, c3)), (8, (0, c4)), (9, (0, n))]) (st' := [(1, rightV mem (mem 94 t) n), (1, mem 95 ((40 * t) + n)), (0, c3)]) rfl ?_
                      refine jlcmpW_ne hF (off := 7) 204 (by decide +kernel) (by decide +kernel) (by decide) (fun h_33 => ?_) (fun h_33 => ?_)
                      · refine jblk hF [(.iconst 0, 1), (.iadd, 1), (.istore 7, 2), (.iload 8, 2), (.lload 10, 2), (.lload 12, 2)] (by decide +kernel) (pc' := 214) (lo' := [(7, (0, c3 + 0)), (6, (0, c2 + 1)), (5, (0, c1 + 1)), (4, (0, c0 + 1)), (14, (0, 1)), (12, (1, rightV mem (mem 94 t) n)), (10, (1, mem 95 ((40 * t) + n))), (0, (2, 35)), (1, (0, t)), (2, (0, w)), (3, (0, mem 94 t)), (8, (0, c4)), (9, (0, n))]) (st' := [(1, rightV mem (mem 94 t) n), (1, mem 95 ((40 * t) + n)), (0, c4)]) rfl ?_
                        refine jlcmpW_ne hF (off := 7) 222 (by decide +kernel) (by decide +kernel) (by decide) (fun h_34 => ?_) (fun h_34 => ?_)
                        · refine jblk hF [(.iconst 0, 1), (.iadd, 1), (.istore 8, 2), (.iinc 9 1, 3)] (by decide +kernel) (pc' := 229) (lo' := [(9, (0, n + 1)), (8, (0, c4 + 0)), (7, (0, c3 + 0)), (6, (0, c2 + 1)), (5, (0, c1 + 1)), (4, (0, c0 + 1)), (14, (0, 1)), (12, (1, rightV mem (mem 94 t) n)), (10, (1, mem 95 ((40 * t) + n))), (0, (2, 35)), (1, (0, t)), (2, (0, w)), (3, (0, mem 94 t))]) (st' := []) rfl ?_
                          refine jgoto hF (off := (-165)) 64 (by decide +kernel) (by decide) ?_
                          refine jsub [9, 10, 11, 12, 5, 4, 3, 2, 1, 0] rfl ?_
                          refine ih_6 (c0 + 1) (c1 + 1) (c2 + 1) (c3 + 0) (c4 + 0) (n + 1) ?_ ?_ ?_ ?_ ?_ ?_ ?_
                          · omega
                          · rw [cq0_s (by omega)]; first | (rw [if_pos (by first | assumption | exact ⟨by assumption, by assumption⟩ | exact ⟨by assumption, by assumption, by assumption⟩ | omega)]; omega) | (rw [if_neg (by omega)]; omega)
                          · rw [cq1_s (by omega)]; first | (rw [if_pos (by first | assumption | exact ⟨by assumption, by assumption⟩ | exact ⟨by assumption, by assumption, by assumption⟩ | omega)]; omega) | (rw [if_neg (by omega)]; omega)
                          · rw [cq2_s (by omega)]; first | (rw [if_pos (by first | assumption | exact ⟨by assumption, by assumption⟩ | exact ⟨by assumption, by assumption, by assumption⟩ | omega)]; omega) | (rw [if_neg (by omega)]; omega)
                          · rw [cq3_s (by omega)]; first | (rw [if_pos (by first | assumption | exact ⟨by assumption, by assumption⟩ | exact ⟨by assumption, by assumption, by assumption⟩ | omega)]; omega) | (rw [if_neg (by omega)]; omega)
                          · rw [cq4_s (by omega)]; first | (rw [if_pos (by first | assumption | exact ⟨by assumption, by assumption⟩ | exact ⟨by assumption, by assumption, by assumption⟩ | omega)]; omega) | (rw [if_neg (by omega)]; omega)
                          · omega
                        · refine jblk hF [(.iconst 1, 1)] (by decide +kernel) (pc' := 219) (lo' := [(7, (0, c3 + 0)), (6, (0, c2 + 1)), (5, (0, c1 + 1)), (4, (0, c0 + 1)), (14, (0, 1)), (12, (1, rightV mem (mem 94 t) n)), (10, (1, mem 95 ((40 * t) + n))), (0, (2, 35)), (1, (0, t)), (2, (0, w)), (3, (0, mem 94 t)), (8, (0, c4)), (9, (0, n))]) (st' := [(0, 1), (0, c4)]) rfl ?_
                          refine jgoto hF (off := 4) 223 (by decide +kernel) (by decide) ?_
                          refine jblk hF [(.iadd, 1), (.istore 8, 2), (.iinc 9 1, 3)] (by decide +kernel) (pc' := 229) (lo' := [(9, (0, n + 1)), (8, (0, c4 + 1)), (7, (0, c3 + 0)), (6, (0, c2 + 1)), (5, (0, c1 + 1)), (4, (0, c0 + 1)), (14, (0, 1)), (12, (1, rightV mem (mem 94 t) n)), (10, (1, mem 95 ((40 * t) + n))), (0, (2, 35)), (1, (0, t)), (2, (0, w)), (3, (0, mem 94 t))]) (st' := []) rfl ?_
                          refine jgoto hF (off := (-165)) 64 (by decide +kernel) (by decide) ?_
                          refine jsub [9, 10, 11, 12, 5, 4, 3, 2, 1, 0] rfl ?_
                          refine ih_6 (c0 + 1) (c1 + 1) (c2 + 1) (c3 + 0) (c4 + 1) (n + 1) ?_ ?_ ?_ ?_ ?_ ?_ ?_
                          · omega
                          · rw [cq0_s (by omega)]; first | (rw [if_pos (by first | assumption | exact ⟨by assumption, by assumption⟩ | exact ⟨by assumption, by assumption, by assumption⟩ | omega)]; omega) | (rw [if_neg (by omega)]; omega)
                          · rw [cq1_s (by omega)]; first | (rw [if_pos (by first | assumption | exact ⟨by assumption, by assumption⟩ | exact ⟨by assumption, by assumption, by assumption⟩ | omega)]; omega) | (rw [if_neg (by omega)]; omega)
                          · rw [cq2_s (by omega)]; first | (rw [if_pos (by first | assumption | exact ⟨by assumption, by assumption⟩ | exact ⟨by assumption, by assumption, by assumption⟩ | omega)]; omega) | (rw [if_neg (by omega)]; omega)
                          · rw [cq3_s (by omega)]; first | (rw [if_pos (by first | assumption | exact ⟨by assumption, by assumption⟩ | exact ⟨by assumption, by assumption, by assumption⟩ | omega)]; omega) | (rw [if_neg (by omega)]; omega)
                          · rw [cq4_s (by omega)]; first | (rw [if_pos (by first | assumption | exact ⟨by assumption, by assumption⟩ | exact ⟨by assumption, by assumption, by assumption⟩ | omega)]; omega) | (rw [if_neg (by omega)]; omega)
                          · omega
                      · refine jblk hF [(.iconst 1, 1)] (by decide +kernel) (pc' := 201) (lo' := [(6, (0, c2 + 1)), (5, (0, c1 + 1)), (4, (0, c0 + 1)), (14, (0, 1)), (12, (1, rightV mem (mem 94 t) n)), (10, (1, mem 95 ((40 * t) + n))), (0, (2, 35)), (1, (0, t)), (2, (0, w)), (3, (0, mem 94 t)), (7, (0, c3)), (8, (0, c4)), (9, (0, n))]) (st' := [(0, 1), (0, c3)]) rfl ?_
                        refine jgoto hF (off := 4) 205 (by decide +kernel) (by decide) ?_
                        refine jblk hF [(.iadd, 1), (.istore 7, 2), (.iload 8, 2), (.lload 10, 2), (.lload 12, 2)] (by decide +kernel) (pc' := 214) (lo' := [(7, (0, c3 + 1)), (6, (0, c2 + 1)), (5, (0, c1 + 1)), (4, (0, c0 + 1)), (14, (0, 1)), (12, (1, rightV mem (mem 94 t) n)), (10, (1, mem 95 ((40 * t) + n))), (0, (2, 35)), (1, (0, t)), (2, (0, w)), (3, (0, mem 94 t)), (8, (0, c4)), (9, (0, n))]) (st' := [(1, rightV mem (mem 94 t) n), (1, mem 95 ((40 * t) + n)), (0, c4)]) rfl ?_
                        refine jlcmpW_ne hF (off := 7) 222 (by decide +kernel) (by decide +kernel) (by decide) (fun h_35 => ?_) (fun h_35 => ?_)
                        · refine jblk hF [(.iconst 0, 1), (.iadd, 1), (.istore 8, 2), (.iinc 9 1, 3)] (by decide +kernel) (pc' := 229) (lo' := [(9, (0, n + 1)), (8, (0, c4 + 0)), (7, (0, c3 + 1)), (6, (0, c2 + 1)), (5, (0, c1 + 1)), (4, (0, c0 + 1)), (14, (0, 1)), (12, (1, rightV mem (mem 94 t) n)), (10, (1, mem 95 ((40 * t) + n))), (0, (2, 35)), (1, (0, t)), (2, (0, w)), (3, (0, mem 94 t))]) (st' := []) rfl ?_
                          refine jgoto hF (off := (-165)) 64 (by decide +kernel) (by decide) ?_
                          refine jsub [9, 10, 11, 12, 5, 4, 3, 2, 1, 0] rfl ?_
                          refine ih_6 (c0 + 1) (c1 + 1) (c2 + 1) (c3 + 1) (c4 + 0) (n + 1) ?_ ?_ ?_ ?_ ?_ ?_ ?_
                          · omega
                          · rw [cq0_s (by omega)]; first | (rw [if_pos (by first | assumption | exact ⟨by assumption, by assumption⟩ | exact ⟨by assumption, by assumption, by assumption⟩ | omega)]; omega) | (rw [if_neg (by omega)]; omega)
                          · rw [cq1_s (by omega)]; first | (rw [if_pos (by first | assumption | exact ⟨by assumption, by assumption⟩ | exact ⟨by assumption, by assumption, by assumption⟩ | omega)]; omega) | (rw [if_neg (by omega)]; omega)
                          · rw [cq2_s (by omega)]; first | (rw [if_pos (by first | assumption | exact ⟨by assumption, by assumption⟩ | exact ⟨by assumption, by assumption, by assumption⟩ | omega)]; omega) | (rw [if_neg (by omega)]; omega)
                          · rw [cq3_s (by omega)]; first | (rw [if_pos (by first | assumption | exact ⟨by assumption, by assumption⟩ | exact ⟨by assumption, by assumption, by assumption⟩ | omega)]; omega) | (rw [if_neg (by omega)]; omega)
                          · rw [cq4_s (by omega)]; first | (rw [if_pos (by first | assumption | exact ⟨by assumption, by assumption⟩ | exact ⟨by assumption, by assumption, by assumption⟩ | omega)]; omega) | (rw [if_neg (by omega)]; omega)
                          · omega
                        · refine jblk hF [(.iconst 1, 1)] (by decide +kernel) (pc' := 219) (lo' := [(7, (0, c3 + 1)), (6, (0, c2 + 1)), (5, (0, c1 + 1)), (4, (0, c0 + 1)), (14, (0, 1)), (12, (1, rightV mem (mem 94 t) n)), (10, (1, mem 95 ((40 * t) + n))), (0, (2, 35)), (1, (0, t)), (2, (0, w)), (3, (0, mem 94 t)), (8, (0, c4)), (9, (0, n))]) (st' := [(0, 1), (0, c4)]) rfl ?_
                          refine jgoto hF (off := 4) 223 (by decide +kernel) (by decide) ?_
                          refine jblk hF [(.iadd, 1), (.istore 8, 2), (.iinc 9 1, 3)] (by decide +kernel) (pc' := 229) (lo' := [(9, (0, n + 1)), (8, (0, c4 + 1)), (7, (0, c3 + 1)), (6, (0, c2 + 1)), (5, (0, c1 + 1)), (4, (0, c0 + 1)), (14, (0, 1)), (12, (1, rightV mem (mem 94 t) n)), (10, (1, mem 95 ((40 * t) + n))), (0, (2, 35)), (1, (0, t)), (2, (0, w)), (3, (0, mem 94 t))]) (st' := []) rfl ?_
                          refine jgoto hF (off := (-165)) 64 (by decide +kernel) (by decide) ?_
                          refine jsub [9, 10, 11, 12, 5, 4, 3, 2, 1, 0] rfl ?_
                          refine ih_6 (c0 + 1) (c1 + 1) (c2 + 1) (c3 + 1) (c4 + 1) (n + 1) ?_ ?_ ?_ ?_ ?_ ?_ ?_
                          · omega
                          · rw [cq0_s (by omega)]; first | (rw [if_pos (by first | assumption | exact ⟨by assumption, by assumption⟩ | exact ⟨by assumption, by assumption, by assumption⟩ | omega)]; omega) | (rw [if_neg (by omega)]; omega)
                          · rw [cq1_s (by omega)]; first | (rw [if_pos (by first | assumption | exact ⟨by assumption, by assumption⟩ | exact ⟨by assumption, by assumption, by assumption⟩ | omega)]; omega) | (rw [if_neg (by omega)]; omega)
                          · rw [cq2_s (by omega)]; first | (rw [if_pos (by first | assumption | exact ⟨by assumption, by assumption⟩ | exact ⟨by assumption, by assumption, by assumption⟩ | omega)]; omega) | (rw [if_neg (by omega)]; omega)
                          · rw [cq3_s (by omega)]; first | (rw [if_pos (by first | assumption | exact ⟨by assumption, by assumption⟩ | exact ⟨by assumption, by assumption, by assumption⟩ | omega)]; omega) | (rw [if_neg (by omega)]; omega)
                          · rw [cq4_s (by omega)]; first | (rw [if_pos (by first | assumption | exact ⟨by assumption, by assumption⟩ | exact ⟨by assumption, by assumption, by assumption⟩ | omega)]; omega) | (rw [if_neg (by omega)]; omega)
                          · omega
              · refine jgoto hF (off := 136) 226 (by decide +kernel) (by decide) ?_
                refine jblk hF [(.iinc 9 1, 3)] (by decide +kernel) (pc' := 229) (lo' := [(9, (0, n + 1)), (0, (2, 35)), (1, (0, t)), (2, (0, w)), (3, (0, mem 94 t)), (4, (0, c0)), (5, (0, c1)), (6, (0, c2)), (7, (0, c3)), (8, (0, c4))]) (st' := []) rfl ?_
                refine jgoto hF (off := (-165)) 64 (by decide +kernel) (by decide) ?_
                refine jsub [1, 2, 3, 4, 5, 6, 7, 8, 9, 0] rfl ?_
                refine ih_6 c0 c1 c2 c3 c4 (n + 1) ?_ ?_ ?_ ?_ ?_ ?_ ?_
                · omega
                · rw [cq0_s (by omega)]; first | (rw [if_pos (by first | assumption | exact ⟨by assumption, by assumption⟩ | exact ⟨by assumption, by assumption, by assumption⟩ | omega)]; omega) | (rw [if_neg (by omega)]; omega)
                · rw [cq1_s (by omega)]; first | (rw [if_pos (by first | assumption | exact ⟨by assumption, by assumption⟩ | exact ⟨by assumption, by assumption, by assumption⟩ | omega)]; omega) | (rw [if_neg (by omega)]; omega)
                · rw [cq2_s (by omega)]; first | (rw [if_pos (by first | assumption | exact ⟨by assumption, by assumption⟩ | exact ⟨by assumption, by assumption, by assumption⟩ | omega)]; omega) | (rw [if_neg (by omega)]; omega)
                · rw [cq3_s (by omega)]; first | (rw [if_pos (by first | assumption | exact ⟨by assumption, by assumption⟩ | exact ⟨by assumption, by assumption, by assumption⟩ | omega)]; omega) | (rw [if_neg (by omega)]; omega)
                · rw [cq4_s (by omega)]; first | (rw [if_pos (by first | assumption | exact ⟨by assumption, by assumption⟩ | exact ⟨by assumption, by assumption, by assumption⟩ | omega)]; omega) | (rw [if_neg (by omega)]; omega)
                · omega
        refine jsub [7, 8, 9, 6, 5, 4, 3, 2, 1, 0] rfl ?_
        refine L_7 _ 0 0 0 0 0 0 ?_ ?_ ?_ ?_ ?_ ?_ (Nat.lt_succ_self _)
        · omega
        · rfl
        · rfl
        · rfl
        · rfl
        · rfl
      · refine jblk hF [(.iconst (-1), 1)] (by decide +kernel) (pc' := 38) (lo' := [(0, (2, 35)), (1, (0, t)), (2, (0, w))]) (st' := [(0, (-1))]) rfl ?_
        refine jiret hF hr (by decide +kernel) ?_
        exact lV (by exact (if_neg (by omega)).symm)
    · refine jif_eq hF (off := 17) 37 (by decide +kernel) (by decide) (by decide) (fun _ => ?_) (fun h => absurd h (by decide))
      refine jblk hF [(.iconst (-1), 1)] (by decide +kernel) (pc' := 38) (lo' := [(0, (2, 35)), (1, (0, t)), (2, (0, w))]) (st' := [(0, (-1))]) rfl ?_
      refine jiret hF hr (by decide +kernel) ?_
      exact lV (by exact (if_neg (by omega)).symm)
  · refine jif_eq hF (off := 26) 37 (by decide +kernel) (by decide) (by decide) (fun _ => ?_) (fun h => absurd h (by decide))
    refine jblk hF [(.iconst (-1), 1)] (by decide +kernel) (pc' := 38) (lo' := [(0, (2, 35)), (1, (0, t)), (2, (0, w))]) (st' := [(0, (-1))]) rfl ?_
    refine jiret hF hr (by decide +kernel) ?_
    exact lV (by exact (if_neg (by omega)).symm)
end
