section
/-! the planner -/
def rtN (mem : Int → Int → Int) (f first st o p c m h : Int) : Nat → Int
  | 0 => 1
  | n + 1 => if rtN mem f first st o p c m h n = 1 ∧ wL (nearBy (wL (numF (nearL mem f first st (p + c)) (fun _ => 0) o m n)) (10 ^ c.toNat) h) = wL (nearV (mem 36 f) (mem 37 f) (mem 38 f) (first + n * st) p h) then 1 else 0
theorem rtN_s {mem : Int → Int → Int} {f first st o p c m h n : Int} (q : 0 ≤ n) : rtN mem f first st o p c m h (n + 1).toNat = (if rtN mem f first st o p c m h n.toNat = 1 ∧ wL (nearBy (wL (numF (nearL mem f first st (p + c)) (fun _ => 0) o m n)) (10 ^ c.toNat) h) = wL (nearV (mem 36 f) (mem 37 f) (mem 38 f) (first + n * st) p h) then 1 else 0) := by
  rw [show (n + 1).toNat = n.toNat + 1 by omega, rtN, show ((n.toNat : Nat) : Int) = n by omega]
theorem rtN_z {mem : Int → Int → Int} {f first st o p c m h : Int} {k : Nat} (hz : rtN mem f first st o p c m h k = 0) : ∀ j : Nat, rtN mem f first st o p c m h (k + j) = 0 := by
  intro j
  induction j with
  | zero => exact hz
  | succ j ih =>
    rw [show k + (j + 1) = (k + j) + 1 from rfl, rtN, ih]
    exact if_neg (fun e => absurd e.1 (by decide))
def meN (mem : Int → Int → Int) : Nat → Int
  | 0 => 0
  | s + 1 => meN mem s + (if mem 68 s = -1 then 0 else 1)
theorem meN_s {mem : Int → Int → Int} {s : Int} (q : 0 ≤ s) : meN mem (s + 1).toNat = meN mem s.toNat + (if mem 68 s = -1 then 0 else 1) := by
  rw [show (s + 1).toNat = s.toNat + 1 by omega, meN, show ((s.toNat : Nat) : Int) = s by omega]
def seN (mem : Int → Int → Int) : Nat → Int
  | 0 => 0
  | s + 1 => seN mem s + (if mem 82 s = 0 then 0 else 1)
theorem seN_s {mem : Int → Int → Int} {s : Int} (q : 0 ≤ s) : seN mem (s + 1).toNat = seN mem s.toNat + (if mem 82 s = 0 then 0 else 1) := by
  rw [show (s + 1).toNat = s.toNat + 1 by omega, seN, show ((s.toNat : Nat) : Int) = s by omega]
def cntV (mem : Int → Int → Int) (w : Int) : Int := if w = 0 then mem 35 0 else if w = 1 then mem 35 6 else if w = 2 then mem 35 16 else if w = 3 then mem 35 33 else if w = 4 then mem 35 45 else if w = 5 then meN mem (mem 35 45).toNat else if w = 6 then seN mem (mem 35 33).toNat else if w = 7 then mem 35 72 else if w = 8 then mem 35 79 else if w = 9 then mem 35 80 else if w = 10 then mem 35 84 else if w = 11 then mem 35 88 else if w = 12 then mem 35 11 else -1
set_option maxHeartbeats 4000000 in
set_option maxRecDepth 100000 in
theorem c_X12_count {l : Launch} {g : GP} (hG : GH g) {kd : Int → Nat} {ln : Int → Int} {mem : Int → Int → Int} {sz : Nat} (hS : SK kd ln) (hR : SR mem) (w : Int) (h_w : InI w) (hPS : PGS mem) (hSL : SLS mem) (h0 : 0 ≤ mem 35 0 ∧ mem 35 0 ≤ 1000) (hIS : IST mem) : MT l g yX12_count cX12_count 5 (some .int) 0 0 0 [(2, 35), (0, w)] kd ln mem sz (pV (0, cntV mem w) kd ln mem sz) := by
  refine MT_of hG (by decide +kernel) (Nat.le_of_ble_eq_true rfl) (fun z hF hr hn => ?_)
  refine jblk hF [(.iconst 0, 1), (.istore_n 2, 1), (.iconst 0, 1), (.istore_n 3, 1), (.iconst 0, 1), (.istore 4, 2)] (by decide +kernel) (pc' := 7) (lo' := [(4, (0, 0)), (3, (0, 0)), (2, (0, 0)), (0, (2, 35)), (1, (0, w))]) (st' := []) rfl ?_
  have L_2 : ∀ (fu_3 : Nat) (a : Int) (s : Int), (0 ≤ s ∧ s ≤ mem 35 45) → (a = meN mem s.toNat) →  (mem 35 45 - s).toNat < fu_3 → J z g 5 0 0 (QM z g 0 0 (pV (0, cntV mem w) kd ln mem sz)) 7 [(0, (2, 35)), (1, (0, w)), (2, (0, a)), (3, (0, 0)), (4, (0, s))] [] kd ln mem sz := by
    intro fu_3
    induction fu_3 with
    | zero => intro a s _ _ hm; omega
    | succ fu_3 ih_1 =>
      intro a s hs1 ha hm
      refine jblk hF [(.iload 4, 2), (.aload_n 0, 1)] (by decide +kernel) (pc' := 10) (lo' := [(0, (2, 35)), (1, (0, w)), (2, (0, a)), (3, (0, 0)), (4, (0, s))]) (st' := [(2, 35), (0, s)]) rfl ?_
      refine jget hF 13 45 0 45 rfl (by decide) (by decide) rfl wd_1508 (by decide +kernel) (by exact hS.k35) ?_
      refine jicmp_ge hF (off := 28) 41 (by decide +kernel) (by decide) (by omega) (by omega) (fun h_4 => ?_) (fun h_4 => ?_)
      · have hse : s = mem 35 45 := by omega
        rw [hse] at ha
        refine jblk hF [(.iconst 0, 1), (.istore 4, 2)] (by decide +kernel) (pc' := 44) (lo' := [(4, (0, 0)), (0, (2, 35)), (1, (0, w)), (2, (0, a)), (3, (0, 0))]) (st' := []) rfl ?_
        have L_6 : ∀ (fu_7 : Nat) (b : Int) (p : Int), (0 ≤ p ∧ p ≤ mem 35 33) → (b = seN mem p.toNat) →  (mem 35 33 - p).toNat < fu_7 → J z g 5 0 0 (QM z g 0 0 (pV (0, cntV mem w) kd ln mem sz)) 44 [(0, (2, 35)), (1, (0, w)), (2, (0, a)), (3, (0, b)), (4, (0, p))] [] kd ln mem sz := by
          intro fu_7
          induction fu_7 with
          | zero => intro b p _ _ hm; omega
          | succ fu_7 ih_5 =>
            intro b p hp1 hb hm2
            refine jblk hF [(.iload 4, 2), (.aload_n 0, 1)] (by decide +kernel) (pc' := 47) (lo' := [(0, (2, 35)), (1, (0, w)), (2, (0, a)), (3, (0, b)), (4, (0, p))]) (st' := [(2, 35), (0, p)]) rfl ?_
            refine jget hF 13 33 0 33 rfl (by decide) (by decide) rfl wd_1496 (by decide +kernel) (by exact hS.k35) ?_
            refine jicmp_ge hF (off := 27) 77 (by decide +kernel) (by decide) (by omega) (by omega) (fun h_8 => ?_) (fun h_8 => ?_)
            · have hpe : p = mem 35 33 := by omega
              rw [hpe] at hb
              refine jblk hF [(.iload_n 1, 1)] (by decide +kernel) (pc' := 78) (lo' := [(0, (2, 35)), (1, (0, w)), (2, (0, a)), (3, (0, b)), (4, (0, p))]) (st' := [(0, w)]) rfl ?_
              by_cases h_9 : w = 0
              · refine jtabIn hF (dflt := 125) (lo' := 0) (hi := 12) (offs := #[66, 71, 76, 81, 86, 91, 93, 95, 100, 105, 110, 115, 120]) (len := 66) 0 66 144 (by decide +kernel) h_9 (by decide) (by decide) (by decide) rfl (by decide) ?_
                refine jblk hF [(.aload_n 0, 1)] (by decide +kernel) (pc' := 145) (lo' := [(0, (2, 35)), (1, (0, w)), (2, (0, a)), (3, (0, b)), (4, (0, p))]) (st' := [(2, 35)]) rfl ?_
                refine jget hF 13 0 0 0 rfl (by decide) (by decide) rfl wd_1463 (by decide +kernel) (by exact hS.k35) ?_
                refine jiret hF hr (by decide +kernel) ?_
                exact lV (by have hw9 : w = 0 := (by omega); rw [hw9]; exact rfl)
              by_cases h_10 : w = 1
              · refine jtabIn hF (dflt := 125) (lo' := 0) (hi := 12) (offs := #[66, 71, 76, 81, 86, 91, 93, 95, 100, 105, 110, 115, 120]) (len := 66) 1 71 149 (by decide +kernel) h_10 (by decide) (by decide) (by decide) rfl (by decide) ?_
                refine jblk hF [(.aload_n 0, 1)] (by decide +kernel) (pc' := 150) (lo' := [(0, (2, 35)), (1, (0, w)), (2, (0, a)), (3, (0, b)), (4, (0, p))]) (st' := [(2, 35)]) rfl ?_
                refine jget hF 13 6 0 6 rfl (by decide) (by decide) rfl wd_1469 (by decide +kernel) (by exact hS.k35) ?_
                refine jiret hF hr (by decide +kernel) ?_
                exact lV (by have hw9 : w = 1 := (by omega); rw [hw9]; exact rfl)
              by_cases h_11 : w = 2
              · refine jtabIn hF (dflt := 125) (lo' := 0) (hi := 12) (offs := #[66, 71, 76, 81, 86, 91, 93, 95, 100, 105, 110, 115, 120]) (len := 66) 2 76 154 (by decide +kernel) h_11 (by decide) (by decide) (by decide) rfl (by decide) ?_
                refine jblk hF [(.aload_n 0, 1)] (by decide +kernel) (pc' := 155) (lo' := [(0, (2, 35)), (1, (0, w)), (2, (0, a)), (3, (0, b)), (4, (0, p))]) (st' := [(2, 35)]) rfl ?_
                refine jget hF 13 16 0 16 rfl (by decide) (by decide) rfl wd_1479 (by decide +kernel) (by exact hS.k35) ?_
                refine jiret hF hr (by decide +kernel) ?_
                exact lV (by have hw9 : w = 2 := (by omega); rw [hw9]; exact rfl)
              by_cases h_12 : w = 3
              · refine jtabIn hF (dflt := 125) (lo' := 0) (hi := 12) (offs := #[66, 71, 76, 81, 86, 91, 93, 95, 100, 105, 110, 115, 120]) (len := 66) 3 81 159 (by decide +kernel) h_12 (by decide) (by decide) (by decide) rfl (by decide) ?_
                refine jblk hF [(.aload_n 0, 1)] (by decide +kernel) (pc' := 160) (lo' := [(0, (2, 35)), (1, (0, w)), (2, (0, a)), (3, (0, b)), (4, (0, p))]) (st' := [(2, 35)]) rfl ?_
                refine jget hF 13 33 0 33 rfl (by decide) (by decide) rfl wd_1496 (by decide +kernel) (by exact hS.k35) ?_
                refine jiret hF hr (by decide +kernel) ?_
                exact lV (by have hw9 : w = 3 := (by omega); rw [hw9]; exact rfl)
              by_cases h_13 : w = 4
              · refine jtabIn hF (dflt := 125) (lo' := 0) (hi := 12) (offs := #[66, 71, 76, 81, 86, 91, 93, 95, 100, 105, 110, 115, 120]) (len := 66) 4 86 164 (by decide +kernel) h_13 (by decide) (by decide) (by decide) rfl (by decide) ?_
                refine jblk hF [(.aload_n 0, 1)] (by decide +kernel) (pc' := 165) (lo' := [(0, (2, 35)), (1, (0, w)), (2, (0, a)), (3, (0, b)), (4, (0, p))]) (st' := [(2, 35)]) rfl ?_
                refine jget hF 13 45 0 45 rfl (by decide) (by decide) rfl wd_1508 (by decide +kernel) (by exact hS.k35) ?_
                refine jiret hF hr (by decide +kernel) ?_
                exact lV (by have hw9 : w = 4 := (by omega); rw [hw9]; exact rfl)
              by_cases h_14 : w = 5
              · refine jtabIn hF (dflt := 125) (lo' := 0) (hi := 12) (offs := #[66, 71, 76, 81, 86, 91, 93, 95, 100, 105, 110, 115, 120]) (len := 66) 5 91 169 (by decide +kernel) h_14 (by decide) (by decide) (by decide) rfl (by decide) ?_
                refine jblk hF [(.iload_n 2, 1)] (by decide +kernel) (pc' := 170) (lo' := [(0, (2, 35)), (1, (0, w)), (2, (0, a)), (3, (0, b)), (4, (0, p))]) (st' := [(0, a)]) rfl ?_
                refine jiret hF hr (by decide +kernel) ?_
                exact lV (by have hw9 : w = 5 := (by omega); rw [hw9]; exact ha)
              by_cases h_15 : w = 6
              · refine jtabIn hF (dflt := 125) (lo' := 0) (hi := 12) (offs := #[66, 71, 76, 81, 86, 91, 93, 95, 100, 105, 110, 115, 120]) (len := 66) 6 93 171 (by decide +kernel) h_15 (by decide) (by decide) (by decide) rfl (by decide) ?_
                refine jblk hF [(.iload_n 3, 1)] (by decide +kernel) (pc' := 172) (lo' := [(0, (2, 35)), (1, (0, w)), (2, (0, a)), (3, (0, b)), (4, (0, p))]) (st' := [(0, b)]) rfl ?_
                refine jiret hF hr (by decide +kernel) ?_
                exact lV (by have hw9 : w = 6 := (by omega); rw [hw9]; exact hb)
              by_cases h_16 : w = 7
              · refine jtabIn hF (dflt := 125) (lo' := 0) (hi := 12) (offs := #[66, 71, 76, 81, 86, 91, 93, 95, 100, 105, 110, 115, 120]) (len := 66) 7 95 173 (by decide +kernel) h_16 (by decide) (by decide) (by decide) rfl (by decide) ?_
                refine jblk hF [(.aload_n 0, 1)] (by decide +kernel) (pc' := 174) (lo' := [(0, (2, 35)), (1, (0, w)), (2, (0, a)), (3, (0, b)), (4, (0, p))]) (st' := [(2, 35)]) rfl ?_
                refine jget hF 13 72 0 72 rfl (by decide) (by decide) rfl wd_1535 (by decide +kernel) (by exact hS.k35) ?_
                refine jiret hF hr (by decide +kernel) ?_
                exact lV (by have hw9 : w = 7 := (by omega); rw [hw9]; exact rfl)
              by_cases h_17 : w = 8
              · refine jtabIn hF (dflt := 125) (lo' := 0) (hi := 12) (offs := #[66, 71, 76, 81, 86, 91, 93, 95, 100, 105, 110, 115, 120]) (len := 66) 8 100 178 (by decide +kernel) h_17 (by decide) (by decide) (by decide) rfl (by decide) ?_
                refine jblk hF [(.aload_n 0, 1)] (by decide +kernel) (pc' := 179) (lo' := [(0, (2, 35)), (1, (0, w)), (2, (0, a)), (3, (0, b)), (4, (0, p))]) (st' := [(2, 35)]) rfl ?_
                refine jget hF 13 79 0 79 rfl (by decide) (by decide) rfl wd_1542 (by decide +kernel) (by exact hS.k35) ?_
                refine jiret hF hr (by decide +kernel) ?_
                exact lV (by have hw9 : w = 8 := (by omega); rw [hw9]; exact rfl)
              by_cases h_18 : w = 9
              · refine jtabIn hF (dflt := 125) (lo' := 0) (hi := 12) (offs := #[66, 71, 76, 81, 86, 91, 93, 95, 100, 105, 110, 115, 120]) (len := 66) 9 105 183 (by decide +kernel) h_18 (by decide) (by decide) (by decide) rfl (by decide) ?_
                refine jblk hF [(.aload_n 0, 1)] (by decide +kernel) (pc' := 184) (lo' := [(0, (2, 35)), (1, (0, w)), (2, (0, a)), (3, (0, b)), (4, (0, p))]) (st' := [(2, 35)]) rfl ?_
                refine jget hF 13 80 0 80 rfl (by decide) (by decide) rfl wd_1543 (by decide +kernel) (by exact hS.k35) ?_
                refine jiret hF hr (by decide +kernel) ?_
                exact lV (by have hw9 : w = 9 := (by omega); rw [hw9]; exact rfl)
              by_cases h_19 : w = 10
              · refine jtabIn hF (dflt := 125) (lo' := 0) (hi := 12) (offs := #[66, 71, 76, 81, 86, 91, 93, 95, 100, 105, 110, 115, 120]) (len := 66) 10 110 188 (by decide +kernel) h_19 (by decide) (by decide) (by decide) rfl (by decide) ?_
                refine jblk hF [(.aload_n 0, 1)] (by decide +kernel) (pc' := 189) (lo' := [(0, (2, 35)), (1, (0, w)), (2, (0, a)), (3, (0, b)), (4, (0, p))]) (st' := [(2, 35)]) rfl ?_
                refine jget hF 13 84 0 84 rfl (by decide) (by decide) rfl wd_1547 (by decide +kernel) (by exact hS.k35) ?_
                refine jiret hF hr (by decide +kernel) ?_
                exact lV (by have hw9 : w = 10 := (by omega); rw [hw9]; exact rfl)
              by_cases h_20 : w = 11
              · refine jtabIn hF (dflt := 125) (lo' := 0) (hi := 12) (offs := #[66, 71, 76, 81, 86, 91, 93, 95, 100, 105, 110, 115, 120]) (len := 66) 11 115 193 (by decide +kernel) h_20 (by decide) (by decide) (by decide) rfl (by decide) ?_
                refine jblk hF [(.aload_n 0, 1)] (by decide +kernel) (pc' := 194) (lo' := [(0, (2, 35)), (1, (0, w)), (2, (0, a)), (3, (0, b)), (4, (0, p))]) (st' := [(2, 35)]) rfl ?_
                refine jget hF 13 88 0 88 rfl (by decide) (by decide) rfl wd_1551 (by decide +kernel) (by exact hS.k35) ?_
                refine jiret hF hr (by decide +kernel) ?_
                exact lV (by have hw9 : w = 11 := (by omega); rw [hw9]; exact rfl)
              by_cases h_21 : w = 12
              · refine jtabIn hF (dflt := 125) (lo' := 0) (hi := 12) (offs := #[66, 71, 76, 81, 86, 91, 93, 95, 100, 105, 110, 115, 120]) (len := 66) 12 120 198 (by decide +kernel) h_21 (by decide) (by decide) (by decide) rfl (by decide) ?_
                refine jblk hF [(.aload_n 0, 1)] (by decide +kernel) (pc' := 199) (lo' := [(0, (2, 35)), (1, (0, w)), (2, (0, a)), (3, (0, b)), (4, (0, p))]) (st' := [(2, 35)]) rfl ?_
                refine jget hF 13 11 0 11 rfl (by decide) (by decide) rfl wd_1474 (by decide +kernel) (by exact hS.k35) ?_
                refine jiret hF hr (by decide +kernel) ?_
                exact lV (by have hw9 : w = 12 := (by omega); rw [hw9]; exact rfl)
              refine jtabOut hF (dflt := 125) (lo' := 0) (hi := 12) (offs := #[66, 71, 76, 81, 86, 91, 93, 95, 100, 105, 110, 115, 120]) (len := 66) 203 (by decide +kernel) (by omega) (by omega) (by decide) ?_
              refine jblk hF [(.iconst (-1), 1)] (by decide +kernel) (pc' := 204) (lo' := [(0, (2, 35)), (1, (0, w)), (2, (0, a)), (3, (0, b)), (4, (0, p))]) (st' := [(0, (-1))]) rfl ?_
              refine jiret hF hr (by decide +kernel) ?_
              exact lV (by unfold cntV; rw [if_neg (by omega), if_neg (by omega), if_neg (by omega), if_neg (by omega), if_neg (by omega), if_neg (by omega), if_neg (by omega), if_neg (by omega), if_neg (by omega), if_neg (by omega), if_neg (by omega), if_neg (by omega), if_neg (by omega)])
            · have hi9 := hIS p (by omega) (by omega)
              refine jblk hF [(.iload_n 3, 1), (.aload_n 0, 1)] (by decide +kernel) (pc' := 55) (lo' := [(0, (2, 35)), (1, (0, w)), (2, (0, a)), (3, (0, b)), (4, (0, p))]) (st' := [(2, 35), (0, b)]) rfl ?_
              refine jget hF 13 66 2 66 rfl (by decide) (by decide) rfl wd_1529 (by decide +kernel) (by exact hS.k35) ?_
              rw [SR.r66 hR]
              refine jblk hF [(.iload 4, 2)] (by decide +kernel) (pc' := 60) (lo' := [(0, (2, 35)), (1, (0, w)), (2, (0, a)), (3, (0, b)), (4, (0, p))]) (st' := [(0, p), (2, 82), (0, b)]) rfl ?_
              refine jzald hF (by decide +kernel) (by exact hS.k82) (by omega) (by have := hS.l82; omega) ?_
              refine jif_eq hF (off := 7) 68 (by decide +kernel) (by decide) (by omega) (fun h_22 => ?_) (fun h_22 => ?_)
              · refine jblk hF [(.iconst 0, 1), (.iadd, 1), (.istore_n 3, 1), (.iinc 4 1, 3)] (by decide +kernel) (pc' := 74) (lo' := [(4, (0, p + 1)), (3, (0, b + 0)), (0, (2, 35)), (1, (0, w)), (2, (0, a))]) (st' := []) rfl ?_
                refine jgoto hF (off := (-30)) 44 (by decide +kernel) (by decide) ?_
                refine jsub [2, 3, 4, 1, 0] rfl ?_
                refine ih_5 (b + 0) (p + 1) ?_ ?_ ?_
                · omega
                · rw [seN_s (by omega)]; first | (rw [if_pos (by omega)]; omega) | (rw [if_neg (by omega)]; omega)
                · omega
              · refine jblk hF [(.iconst 1, 1)] (by decide +kernel) (pc' := 65) (lo' := [(0, (2, 35)), (1, (0, w)), (2, (0, a)), (3, (0, b)), (4, (0, p))]) (st' := [(0, 1), (0, b)]) rfl ?_
                refine jgoto hF (off := 4) 69 (by decide +kernel) (by decide) ?_
                refine jblk hF [(.iadd, 1), (.istore_n 3, 1), (.iinc 4 1, 3)] (by decide +kernel) (pc' := 74) (lo' := [(4, (0, p + 1)), (3, (0, b + 1)), (0, (2, 35)), (1, (0, w)), (2, (0, a))]) (st' := []) rfl ?_
                refine jgoto hF (off := (-30)) 44 (by decide +kernel) (by decide) ?_
                refine jsub [2, 3, 4, 1, 0] rfl ?_
                refine ih_5 (b + 1) (p + 1) ?_ ?_ ?_
                · omega
                · rw [seN_s (by omega)]; first | (rw [if_pos (by omega)]; omega) | (rw [if_neg (by omega)]; omega)
                · omega
        refine jsub [1, 2, 3, 4, 0] rfl ?_
        refine L_6 _ 0 0 ?_ ?_ (Nat.lt_succ_self _)
        · omega
        · rfl
      · have hs := hSL.2.2 s (by omega) (by omega)
        refine jblk hF [(.iload_n 2, 1), (.aload_n 0, 1)] (by decide +kernel) (pc' := 18) (lo' := [(0, (2, 35)), (1, (0, w)), (2, (0, a)), (3, (0, 0)), (4, (0, s))]) (st' := [(2, 35), (0, a)]) rfl ?_
        refine jget hF 13 44 2 44 rfl (by decide) (by decide) rfl wd_1507 (by decide +kernel) (by exact hS.k35) ?_
        rw [SR.r44 hR]
        refine jblk hF [(.iload 4, 2)] (by decide +kernel) (pc' := 23) (lo' := [(0, (2, 35)), (1, (0, w)), (2, (0, a)), (3, (0, 0)), (4, (0, s))]) (st' := [(0, s), (2, 68), (0, a)]) rfl ?_
        refine jiald hF (by decide +kernel) (by exact hS.k68) (by omega) (by have := hS.l68; omega) ?_
        refine jblk hF [(.iconst (-1), 1)] (by decide +kernel) (pc' := 25) (lo' := [(0, (2, 35)), (1, (0, w)), (2, (0, a)), (3, (0, 0)), (4, (0, s))]) (st' := [(0, (-1)), (0, mem 68 s), (0, a)]) rfl ?_
        refine jicmp_eq hF (off := 7) 32 (by decide +kernel) (by decide) (by omega) (by decide) (fun h_23 => ?_) (fun h_23 => ?_)
        · refine jblk hF [(.iconst 0, 1), (.iadd, 1), (.istore_n 2, 1), (.iinc 4 1, 3)] (by decide +kernel) (pc' := 38) (lo' := [(4, (0, s + 1)), (2, (0, a + 0)), (0, (2, 35)), (1, (0, w)), (3, (0, 0))]) (st' := []) rfl ?_
          refine jgoto hF (off := (-31)) 7 (by decide +kernel) (by decide) ?_
          refine jsub [2, 3, 1, 4, 0] rfl ?_
          refine ih_1 (a + 0) (s + 1) ?_ ?_ ?_
          · omega
          · rw [meN_s (by omega)]; first | (rw [if_pos (by omega)]; omega) | (rw [if_neg (by omega)]; omega)
          · omega
        · refine jblk hF [(.iconst 1, 1)] (by decide +kernel) (pc' := 29) (lo' := [(0, (2, 35)), (1, (0, w)), (2, (0, a)), (3, (0, 0)), (4, (0, s))]) (st' := [(0, 1), (0, a)]) rfl ?_
          refine jgoto hF (off := 4) 33 (by decide +kernel) (by decide) ?_
          refine jblk hF [(.iadd, 1), (.istore_n 2, 1), (.iinc 4 1, 3)] (by decide +kernel) (pc' := 38) (lo' := [(4, (0, s + 1)), (2, (0, a + 1)), (0, (2, 35)), (1, (0, w)), (3, (0, 0))]) (st' := []) rfl ?_
          refine jgoto hF (off := (-31)) 7 (by decide +kernel) (by decide) ?_
          refine jsub [2, 3, 1, 4, 0] rfl ?_
          refine ih_1 (a + 1) (s + 1) ?_ ?_ ?_
          · omega
          · rw [meN_s (by omega)]; first | (rw [if_pos (by omega)]; omega) | (rw [if_neg (by omega)]; omega)
          · omega
  refine jsub [3, 4, 2, 1, 0] rfl ?_
  refine L_2 _ 0 0 ?_ ?_ (Nat.lt_succ_self _)
  · omega
  · rfl
set_option maxHeartbeats 4000000 in
set_option maxRecDepth 100000 in
theorem c_X12_isRight {l : Launch} {g : GP} (hG : GH g) {kd : Int → Nat} {ln : Int → Int} {mem : Int → Int → Int} {sz : Nat} (hS : SK kd ln) (hR : SR mem) (f first st many o p e m h : Int) (hA : MKA mem f first st many o (p + e) m) (hp0 : 0 ≤ p ∧ 0 ≤ e ∧ 0 ≤ h ∧ h ≤ 2 ∧ 1 ≤ st) (h59 : ∀ j : Int, 0 ≤ j → j < 200 → mem 59 j = 0) : MT l g yX12_isRight cX12_isRight 11 (some .boolean) 4 0 0 [(2, 35), (0, f), (0, first), (0, st), (0, many), (0, o), (0, p), (0, e), (0, m), (0, h)] kd ln mem sz (pMB (fun c mem' => SR mem' ∧ ((c ↔ rtN mem f first st o p e m h many.toNat = 1) ∧ ∀ a j : Int, a ≠ 60 → a ≠ 61 → a ≠ 62 → mem' a j = mem a j)) kd ln sz) := by
  refine MT_of hG (by decide +kernel) (Nat.le_of_ble_eq_true rfl) (fun z hF hr hn => ?_)
  refine jblk hF [(.aload_n 0, 1), (.iload_n 1, 1), (.iload_n 2, 1), (.iload_n 3, 1), (.iload 4, 2), (.iload 5, 2), (.iload 6, 2), (.iload 7, 2), (.iadd, 1), (.iload 8, 2)] (by decide +kernel) (pc' := 15) (lo' := [(0, (2, 35)), (1, (0, f)), (2, (0, first)), (3, (0, st)), (4, (0, many)), (5, (0, o)), (6, (0, p)), (7, (0, e)), (8, (0, m)), (9, (0, h))]) (st' := [(0, m), (0, p + e), (0, o), (0, many), (0, st), (0, first), (0, f), (2, 35)]) rfl ?_
  refine jcallV hF (c_X12_make hG hS hR f first st many o (p + e) m (by omega)) MW_X12_make 13 (by decide) (by exact hS.k35) wd_1996 wd_1998 wd_p83 (by decide +kernel) [] rfl rfl (by decide) (Nat.le_of_ble_eq_true rfl) (by decide) (kMV (fun m_1 h_2 => ?_))
  obtain ⟨hR_m_1, h_2⟩ := h_2
  have hK := h_2
  have h36 : m_1 36 = mem 36 ∧ m_1 37 = mem 37 ∧ m_1 38 = mem 38 := ⟨funext fun j => hK.2.1 36 j (by decide) (by decide) (by decide), funext fun j => hK.2.1 37 j (by decide) (by decide) (by decide), funext fun j => hK.2.1 38 j (by decide) (by decide) (by decide)⟩
  have hA2 : FN m_1 f := by unfold FN; rw [h36.1, h36.2.1, h36.2.2]; exact hA.1
  have h61 : ∀ n : Int, 0 ≤ n → n < many → m_1 61 n = numF (nearL mem f first st (p + e)) (fun _ => 0) o m n := fun n q1 q2 => by rw [hK.2.2.1 n q1 q2]; exact numF_congr (by omega) q1 (fun i q3 q4 => h59 i q3 (by omega))
  have hst : ∀ n : Int, 0 ≤ n → rtN mem f first st o p e m h (n + 1).toNat = (if rtN mem f first st o p e m h n.toNat = 1 ∧ wL (nearBy (wL (numF (nearL mem f first st (p + e)) (fun _ => 0) o m n)) (10 ^ e.toNat) h) = wL (nearV (m_1 36 f) (m_1 37 f) (m_1 38 f) (first + n * st) p h) then 1 else 0) := fun n q => by rw [h36.1, h36.2.1, h36.2.2]; exact rtN_s q
  refine jblk hF [(.iconst 0, 1), (.istore 10, 2)] (by decide +kernel) (pc' := 21) (lo' := [(10, (0, 0)), (0, (2, 35)), (1, (0, f)), (2, (0, first)), (3, (0, st)), (4, (0, many)), (5, (0, o)), (6, (0, p)), (7, (0, e)), (8, (0, m)), (9, (0, h))]) (st' := []) rfl ?_
  have L_4 : ∀ (fu_5 : Nat) (n : Int), (0 ≤ n ∧ n ≤ many) → (rtN mem f first st o p e m h n.toNat = 1) →  (many - n).toNat < fu_5 → J z g 11 0 0 (QM z g 0 0 (pMB (fun c mem' => SR mem' ∧ ((c ↔ rtN mem f first st o p e m h many.toNat = 1) ∧ ∀ a j : Int, a ≠ 60 → a ≠ 61 → a ≠ 62 → mem' a j = mem a j)) kd ln sz)) 21 [(0, (2, 35)), (1, (0, f)), (2, (0, first)), (3, (0, st)), (4, (0, many)), (5, (0, o)), (6, (0, p)), (7, (0, e)), (8, (0, m)), (9, (0, h)), (10, (0, n))] [] kd ln m_1 sz := by
    intro fu_5
    induction fu_5 with
    | zero => intro n _ _ hm; omega
    | succ fu_5 ih_3 =>
      intro n hn1 hr1 hm
      refine jblk hF [(.iload 10, 2), (.iload 4, 2)] (by decide +kernel) (pc' := 25) (lo' := [(0, (2, 35)), (1, (0, f)), (2, (0, first)), (3, (0, st)), (4, (0, many)), (5, (0, o)), (6, (0, p)), (7, (0, e)), (8, (0, m)), (9, (0, h)), (10, (0, n))]) (st' := [(0, many), (0, n)]) rfl ?_
      refine jicmp_ge hF (off := 47) 72 (by decide +kernel) (by decide) (by omega) (by omega) (fun h_6 => ?_) (fun h_6 => ?_)
      · refine jblk hF [(.iconst 1, 1)] (by decide +kernel) (pc' := 73) (lo' := [(0, (2, 35)), (1, (0, f)), (2, (0, first)), (3, (0, st)), (4, (0, many)), (5, (0, o)), (6, (0, p)), (7, (0, e)), (8, (0, m)), (9, (0, h)), (10, (0, n))]) (st' := [(0, 1)]) rfl ?_
        refine jzret hF hr (by omega) (by decide +kernel) ?_
        exact lMB1 ⟨hR_m_1, by exact ⟨⟨fun _ => by rw [show many.toNat = n.toNat by omega]; exact hr1, fun _ => trivial⟩, fun a j q1 q2 q3 => hK.2.1 a j q1 q2 q3⟩⟩
      · have hx := line_x (first := first) (st := st) (many := many) (n := n) (by omega) (by omega) (by omega) (by omega) (by omega)
        have h6 := h61 n (by omega) (by omega)
        have ht := ten6 (p := e) (by omega)
        have hs9 := hst n (by omega)
        rw [← h6] at hs9
        refine jblk hF [(.aload_n 0, 1)] (by decide +kernel) (pc' := 29) (lo' := [(0, (2, 35)), (1, (0, f)), (2, (0, first)), (3, (0, st)), (4, (0, many)), (5, (0, o)), (6, (0, p)), (7, (0, e)), (8, (0, m)), (9, (0, h)), (10, (0, n))]) (st' := [(2, 35)]) rfl ?_
        refine jget hF 13 37 2 37 rfl (by decide) (by decide) rfl wd_1500 (by decide +kernel) (by exact hS.k35) ?_
        rw [SR.r37 hR_m_1]
        refine jblk hF [(.iload 10, 2)] (by decide +kernel) (pc' := 34) (lo' := [(0, (2, 35)), (1, (0, f)), (2, (0, first)), (3, (0, st)), (4, (0, many)), (5, (0, o)), (6, (0, p)), (7, (0, e)), (8, (0, m)), (9, (0, h)), (10, (0, n))]) (st' := [(0, n), (2, 61)]) rfl ?_
        refine jlald hF (by decide +kernel) (by exact hS.k61) (by omega) (by have := hS.l61; omega) ?_
        refine jwL0 ?_
        refine jblk hF [(.iload 7, 2)] (by decide +kernel) (pc' := 37) (lo' := [(0, (2, 35)), (1, (0, f)), (2, (0, first)), (3, (0, st)), (4, (0, many)), (5, (0, o)), (6, (0, p)), (7, (0, e)), (8, (0, m)), (9, (0, h)), (10, (0, n))]) (st' := [(0, e), (1, wL (m_1 61 n))]) rfl ?_
        refine jcallS hF (c_X12_ten hG e (by omega)) MW_X12_ten wd_1774 wd_1775 (by decide +kernel) [(1, wL (m_1 61 n))] rfl rfl (by decide) (Nat.le_of_ble_eq_true rfl) (by decide) (kV ?_)
        refine jblk hF [(.iload 9, 2)] (by decide +kernel) (pc' := 42) (lo' := [(0, (2, 35)), (1, (0, f)), (2, (0, first)), (3, (0, st)), (4, (0, many)), (5, (0, o)), (6, (0, p)), (7, (0, e)), (8, (0, m)), (9, (0, h)), (10, (0, n))]) (st' := [(0, h), (1, 10 ^ e.toNat), (1, wL (m_1 61 n))]) rfl ?_
        refine jcallS hF (c_X12_nearestBy hG (wL (m_1 61 n)) (10 ^ e.toNat) h (by first | exact wL_in _ | omega) (by omega) (by omega)) MW_X12_nearestBy wd_1806 wd_1807 (by decide +kernel) [] rfl rfl (by decide) (Nat.le_of_ble_eq_true rfl) (by decide) (kV ?_)
        refine jblk hF [(.aload_n 0, 1), (.iload_n 1, 1), (.iload_n 2, 1), (.iload 10, 2), (.iload_n 3, 1), (.imul, 1), (.iadd, 1), (.iload 6, 2), (.iload 9, 2)] (by decide +kernel) (pc' := 57) (lo' := [(0, (2, 35)), (1, (0, f)), (2, (0, first)), (3, (0, st)), (4, (0, many)), (5, (0, o)), (6, (0, p)), (7, (0, e)), (8, (0, m)), (9, (0, h)), (10, (0, n))]) (st' := [(0, h), (0, p), (0, first + (n * st)), (0, f), (2, 35), (1, nearBy (wL (m_1 61 n)) (10 ^ e.toNat) h)]) rfl ?_
        refine jcallV hF (c_X12_nearestOf hG hS hR_m_1 f (first + (n * st)) p h (by omega) (by omega) (by omega)) MW_X12_nearestOf 13 (by decide) (by exact hS.k35) wd_1802 wd_1804 wd_p53 (by decide +kernel) [(1, nearBy (wL (m_1 61 n)) (10 ^ e.toNat) h)] rfl rfl (by decide) (Nat.le_of_ble_eq_true rfl) (by decide) (kV ?_)
        have hf_7 := @near_bd (m_1 36 f) (m_1 37 f) (m_1 38 f) (first + (n * st)) p h (by omega) (by omega)
        refine jlcmpW_eq hF (off := 5) 66 (by decide +kernel) (by decide +kernel) (by decide) (fun h_8 => ?_) (fun h_8 => ?_)
        · refine jblk hF [(.iinc 10 1, 3)] (by decide +kernel) (pc' := 69) (lo' := [(10, (0, n + 1)), (0, (2, 35)), (1, (0, f)), (2, (0, first)), (3, (0, st)), (4, (0, many)), (5, (0, o)), (6, (0, p)), (7, (0, e)), (8, (0, m)), (9, (0, h))]) (st' := []) rfl ?_
          refine jgoto hF (off := (-48)) 21 (by decide +kernel) (by decide) ?_
          refine jsub [1, 2, 3, 4, 5, 6, 7, 8, 9, 10, 0] rfl ?_
          refine ih_3 (n + 1) ?_ ?_ ?_
          · omega
          · rw [hs9]; exact if_pos ⟨hr1, by assumption⟩
          · omega
        · refine jblk hF [(.iconst 0, 1)] (by decide +kernel) (pc' := 65) (lo' := [(0, (2, 35)), (1, (0, f)), (2, (0, first)), (3, (0, st)), (4, (0, many)), (5, (0, o)), (6, (0, p)), (7, (0, e)), (8, (0, m)), (9, (0, h)), (10, (0, n))]) (st' := [(0, 0)]) rfl ?_
          refine jzret hF hr (by omega) (by decide +kernel) ?_
          exact lMB0 ⟨hR_m_1, by refine ⟨⟨fun h => h.elim, fun q9 => ?_⟩, fun a j q1 q2 q3 => hK.2.1 a j q1 q2 q3⟩; rw [if_neg (fun q8 => absurd q8.2 (by assumption))] at hs9; have hz9 := rtN_z hs9 (many.toNat - (n + 1).toNat); rw [show (n + 1).toNat + (many.toNat - (n + 1).toNat) = many.toNat by omega] at hz9; omega⟩
  refine jsub [1, 2, 3, 4, 5, 6, 7, 8, 9, 10, 0] rfl ?_
  refine L_4 _ 0 ?_ ?_ (Nat.lt_succ_self _)
  · omega
  · rfl
end
