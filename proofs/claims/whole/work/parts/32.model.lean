section
abbrev LH (mem : Int → Int → Int) : Prop := ∀ p n : Int, 0 ≤ p → p < 12 → 0 ≤ n → n < mem 47 p → InI (mem 54 (40 * p + n)) ∧ InI (mem 55 (40 * p + n))
def slB (mem : Int → Int → Int) (p n : Int) : Nat → Int
  | 0 => 0
  | s + 1 => if slB mem p n s ≠ 0 ∨ (mem 63 s = p ∧ mem 64 s = n) then 1 else 0
theorem slB_s {mem : Int → Int → Int} {p n s : Int} (h : 0 ≤ s) : slB mem p n (s + 1).toNat = (if slB mem p n s.toNat ≠ 0 ∨ (mem 63 s = p ∧ mem 64 s = n) then 1 else 0) := by
  rw [show (s + 1).toNat = s.toNat + 1 by omega, slB, show ((s.toNat : Nat) : Int) = s by omega]
def alN (mem : Int → Int → Int) (h p : Int) : Nat → Int
  | 0 => 0
  | n + 1 => alN mem h p n + (if (n : Int) % mem 52 p > mem 49 p ∧ mem 54 (40 * p + n) = h then 1 else 0)
def baN (mem : Int → Int → Int) (h p : Int) : Nat → Int
  | 0 => 0
  | n + 1 => baN mem h p n + (if (n : Int) % mem 52 p > mem 49 p ∧ mem 54 (40 * p + n) = h ∧ slB mem p n (mem 35 45).toNat ≠ 0 then 1 else 0)
theorem alN_s {mem : Int → Int → Int} {h p n : Int} (q : 0 ≤ n) : alN mem h p (n + 1).toNat = alN mem h p n.toNat + (if n % mem 52 p > mem 49 p ∧ mem 54 (40 * p + n) = h then 1 else 0) := by
  rw [show (n + 1).toNat = n.toNat + 1 by omega, alN, show ((n.toNat : Nat) : Int) = n by omega]
theorem baN_s {mem : Int → Int → Int} {h p n : Int} (q : 0 ≤ n) : baN mem h p (n + 1).toNat = baN mem h p n.toNat + (if n % mem 52 p > mem 49 p ∧ mem 54 (40 * p + n) = h ∧ slB mem p n (mem 35 45).toNat ≠ 0 then 1 else 0) := by
  rw [show (n + 1).toNat = n.toNat + 1 by omega, baN, show ((n.toNat : Nat) : Int) = n by omega]
theorem alN_bd (mem : Int → Int → Int) (h p : Int) : ∀ k : Nat, 0 ≤ baN mem h p k ∧ baN mem h p k ≤ alN mem h p k ∧ alN mem h p k ≤ k := by
  intro k
  induction k with
  | zero => simp [alN, baN]
  | succ k ih => unfold alN baN; (repeat' split) <;> omega
def alA (mem : Int → Int → Int) (h : Int) : Nat → Int
  | 0 => 0
  | p + 1 => alA mem h p + alN mem h p (mem 47 p).toNat
def baA (mem : Int → Int → Int) (h : Int) : Nat → Int
  | 0 => 0
  | p + 1 => baA mem h p + baN mem h p (mem 47 p).toNat
theorem alA_s {mem : Int → Int → Int} {h p : Int} (q : 0 ≤ p) : alA mem h (p + 1).toNat = alA mem h p.toNat + alN mem h p (mem 47 p).toNat := by
  rw [show (p + 1).toNat = p.toNat + 1 by omega, alA, show ((p.toNat : Nat) : Int) = p by omega]
theorem baA_s {mem : Int → Int → Int} {h p : Int} (q : 0 ≤ p) : baA mem h (p + 1).toNat = baA mem h p.toNat + baN mem h p (mem 47 p).toNat := by
  rw [show (p + 1).toNat = p.toNat + 1 by omega, baA, show ((p.toNat : Nat) : Int) = p by omega]
theorem alA_bd {mem : Int → Int → Int} (h : Int) (hp : PGS mem) : ∀ k : Nat, (k : Int) ≤ mem 35 33 → 0 ≤ baA mem h k ∧ baA mem h k ≤ alA mem h k ∧ alA mem h k ≤ 40 * k := by
  intro k
  induction k with
  | zero => intro _; simp [alA, baA]
  | succ k ih =>
    intro hk
    have h1 := ih (by omega)
    have h2 := alN_bd mem h k (mem 47 k).toNat
    have h3 := hp.2.2 k (by omega) (by omega)
    unfold alA baA
    omega
def rateV (mem : Int → Int → Int) (h : Int) : Int := if 0 ≤ h ∧ h ≤ 7 then (if alA mem h (mem 35 33).toNat = 0 then 0 else 1000 * baA mem h (mem 35 33).toNat / alA mem h (mem 35 33).toNat) else -1
theorem fand_in (a b : Int) : InI (fand a b) := I_in _
def shutV (mem : Int → Int → Int) (h p n : Int) : Int := if (0 ≤ h ∧ h ≤ 7) ∧ isLn mem p n then (if fand (fishr (mem 55 (40 * p + n)) h) 1 = 0 ∧ mem 54 (40 * p + n) ≠ h then 1 else 0) else -1
abbrev dblC (mem : Int → Int → Int) (x y a b c : Int) : Prop := (0 ≤ x ∧ x ≤ 7) ∧ (0 ≤ y ∧ y ≤ 7) ∧ x ≠ y ∧ (0 ≤ a ∧ a ≤ 1000) ∧ (0 ≤ b ∧ b ≤ 1000) ∧ (0 ≤ c ∧ c ≤ 1000) ∧ mem 35 65 ≠ 40
def dblM (mem : Int → Int → Int) (x y a b c : Int) : Int → Int → Int := set2 (set2 (set2 (set2 (set2 (set2 mem 77 (mem 35 65) x) 78 (mem 35 65) y) 79 (mem 35 65) a) 80 (mem 35 65) b) 81 (mem 35 65) c) 35 65 (mem 35 65 + 1)
abbrev DBS (mem : Int → Int → Int) : Prop := 0 ≤ mem 35 65 ∧ mem 35 65 ≤ 40 ∧ ∀ k : Int, 0 ≤ k → k ≤ mem 35 65 - 1 → InI (mem 77 k) ∧ InI (mem 78 k) ∧ 0 ≤ mem 79 k ∧ mem 79 k ≤ 1000 ∧ 0 ≤ mem 80 k ∧ mem 80 k ≤ 1000 ∧ 0 ≤ mem 81 k ∧ mem 81 k ≤ 1000
def lsN (mem : Int → Int → Int) (x y : Int) : Nat → Int
  | 0 => -1
  | k + 1 => if (mem 77 k = x ∧ mem 78 k = y) ∨ (mem 77 k = y ∧ mem 78 k = x) then k else lsN mem x y k
theorem lsN_s {mem : Int → Int → Int} {x y k : Int} (q : 0 ≤ k) : lsN mem x y (k + 1).toNat = (if (mem 77 k = x ∧ mem 78 k = y) ∨ (mem 77 k = y ∧ mem 78 k = x) then k else lsN mem x y k.toNat) := by
  rw [show (k + 1).toNat = k.toNat + 1 by omega, lsN, show ((k.toNat : Nat) : Int) = k by omega]
def leftW (mem : Int → Int → Int) (i : Int) : Int := if i = -1 then -1 else if mem 81 i = 0 then (if mem 79 i * mem 80 i = 0 then 0 else -1) else (mem 79 i * mem 80 i + mem 81 i - 1) / mem 81 i
def leftV (mem : Int → Int → Int) (x y : Int) : Int := leftW mem (lsN mem x y (mem 35 65).toNat)
set_option maxHeartbeats 4000000 in
set_option maxRecDepth 100000 in
theorem c_X12_isHand {l : Launch} {g : GP} (hG : GH g) {kd : Int → Nat} {ln : Int → Int} {mem : Int → Int → Int} {sz : Nat} (h : Int) (h_h : InI h) : MT l g yX12_isHand cX12_isHand 1 (some .boolean) 1 0 0 [(0, h)] kd ln mem sz (pB (0 ≤ h ∧ h ≤ 7) kd ln mem sz) := by
  refine MT_of hG (by decide +kernel) (Nat.le_of_ble_eq_true rfl) (fun z hF hr hn => ?_)
  refine jblk hF [(.iload_n 0, 1), (.iconst 0, 1), (.bipush 7, 2)] (by decide +kernel) (pc' := 4) (lo' := [(0, (0, h))]) (st' := [(0, 7), (0, 0), (0, h)]) rfl ?_
  refine jcallS hF (c_X12_in hG h 0 7 (by omega) (by decide) (by decide)) MW_X12_in wd_1743 wd_1744 (by decide +kernel) [] rfl rfl (by decide) (Nat.le_of_ble_eq_true rfl) (by decide) (kB (fun h_1 => ?_) (fun h_1 => ?_))
  · refine jzret hF hr (by omega) (by decide +kernel) ?_
    exact lB1 (by omega)
  · refine jzret hF hr (by omega) (by decide +kernel) ?_
    exact lB0 (by omega)
set_option maxHeartbeats 4000000 in
set_option maxRecDepth 100000 in
theorem c_X12_rate {l : Launch} {g : GP} (hG : GH g) {kd : Int → Nat} {ln : Int → Int} {mem : Int → Int → Int} {sz : Nat} (hS : SK kd ln) (hR : SR mem) (h : Int) (h_h : InI h) (hPS : PGS mem) (hSL : SLS mem) (hLH : LH mem) : MT l g yX12_rate cX12_rate 8 (some .int) 2 0 0 [(2, 35), (0, h)] kd ln mem sz (pV (0, rateV mem h) kd ln mem sz) := by
  refine MT_of hG (by decide +kernel) (Nat.le_of_ble_eq_true rfl) (fun z hF hr hn => ?_)
  refine jblk hF [(.iload_n 1, 1)] (by decide +kernel) (pc' := 1) (lo' := [(0, (2, 35)), (1, (0, h))]) (st' := [(0, h)]) rfl ?_
  refine jcallS hF (c_X12_isHand hG h (by omega)) MW_X12_isHand wd_2138 wd_2139 (by decide +kernel) [] rfl rfl (by decide) (Nat.le_of_ble_eq_true rfl) (by decide) (kB (fun h_1 => ?_) (fun h_1 => ?_))
  · refine jif_ne hF (off := 5) 9 (by decide +kernel) (by decide) (by decide) (fun _ => ?_) (fun h => absurd h (by decide))
    refine jblk hF [(.iconst 0, 1), (.istore_n 2, 1), (.iconst 0, 1), (.istore_n 3, 1), (.iconst 0, 1), (.istore 4, 2)] (by decide +kernel) (pc' := 16) (lo' := [(4, (0, 0)), (3, (0, 0)), (2, (0, 0)), (0, (2, 35)), (1, (0, h))]) (st' := []) rfl ?_
    have L_4 : ∀ (fu_5 : Nat) (a : Int) (e : Int) (p : Int), (0 ≤ p ∧ p ≤ mem 35 33) → (a = alA mem h p.toNat) → (e = baA mem h p.toNat) →  (mem 35 33 - p).toNat < fu_5 → J z g 8 0 0 (QM z g 0 0 (pV (0, rateV mem h) kd ln mem sz)) 16 [(0, (2, 35)), (1, (0, h)), (2, (0, a)), (3, (0, e)), (4, (0, p))] [] kd ln mem sz := by
      intro fu_5
      induction fu_5 with
      | zero => intro a e p _ _ _ hm; omega
      | succ fu_5 ih_3 =>
        intro a e p hp1 ha he hm
        have hbA := alA_bd h hPS p.toNat (by omega)
        refine jblk hF [(.iload 4, 2), (.aload_n 0, 1)] (by decide +kernel) (pc' := 19) (lo' := [(0, (2, 35)), (1, (0, h)), (2, (0, a)), (3, (0, e)), (4, (0, p))]) (st' := [(2, 35), (0, p)]) rfl ?_
        refine jget hF 13 33 0 33 rfl (by decide) (by decide) rfl wd_1496 (by decide +kernel) (by exact hS.k35) ?_
        refine jicmp_ge hF (off := 134) 156 (by decide +kernel) (by decide) (by omega) (by omega) (fun h_6 => ?_) (fun h_6 => ?_)
        · have hpe : p = mem 35 33 := by omega
          rw [hpe] at ha he hbA
          refine jblk hF [(.iload_n 2, 1)] (by decide +kernel) (pc' := 157) (lo' := [(0, (2, 35)), (1, (0, h)), (2, (0, a)), (3, (0, e)), (4, (0, p))]) (st' := [(0, a)]) rfl ?_
          refine jif_ne hF (off := 7) 164 (by decide +kernel) (by decide) (by omega) (fun h_7 => ?_) (fun h_7 => ?_)
          · refine jblk hF [(.sipush 1000, 3), (.iload_n 3, 1), (.imul, 1), (.iload_n 2, 1)] (by decide +kernel) (pc' := 170) (lo' := [(0, (2, 35)), (1, (0, h)), (2, (0, a)), (3, (0, e)), (4, (0, p))]) (st' := [(0, a), (0, 1000 * e)]) rfl ?_
            refine jidivN hF (by decide +kernel) (by omega) (by omega) ?_
            refine jiret hF hr (by decide +kernel) ?_
            exact lV (by unfold rateV; rw [if_pos (by omega), ← ha, ← he]; first | exact (if_pos (by omega)).symm | exact (if_neg (by omega)).symm)
          · refine jblk hF [(.iconst 0, 1)] (by decide +kernel) (pc' := 161) (lo' := [(0, (2, 35)), (1, (0, h)), (2, (0, a)), (3, (0, e)), (4, (0, p))]) (st' := [(0, 0)]) rfl ?_
            refine jgoto hF (off := 10) 171 (by decide +kernel) (by decide) ?_
            refine jiret hF hr (by decide +kernel) ?_
            exact lV (by unfold rateV; rw [if_pos (by omega), ← ha, ← he]; first | exact (if_pos (by omega)).symm | exact (if_neg (by omega)).symm)
        · have hp := hPS.2.2 p (by omega) (by omega)
          refine jblk hF [(.iconst 0, 1), (.istore 5, 2)] (by decide +kernel) (pc' := 28) (lo' := [(5, (0, 0)), (0, (2, 35)), (1, (0, h)), (2, (0, a)), (3, (0, e)), (4, (0, p))]) (st' := []) rfl ?_
          have L_9 : ∀ (fu_10 : Nat) (a1 : Int) (e1 : Int) (n : Int), (0 ≤ n ∧ n ≤ mem 47 p) → (a1 = alA mem h p.toNat + alN mem h p n.toNat) → (e1 = baA mem h p.toNat + baN mem h p n.toNat) →  (mem 47 p - n).toNat < fu_10 → J z g 8 0 0 (QM z g 0 0 (pV (0, rateV mem h) kd ln mem sz)) 28 [(0, (2, 35)), (1, (0, h)), (2, (0, a1)), (3, (0, e1)), (4, (0, p)), (5, (0, n))] [] kd ln mem sz := by
            intro fu_10
            induction fu_10 with
            | zero => intro a1 e1 n _ _ _ hm; omega
            | succ fu_10 ih_8 =>
              intro a1 e1 n hn1 ha1 he1 hm1
              have hbN := alN_bd mem h p n.toNat
              refine jblk hF [(.iload 5, 2), (.aload_n 0, 1)] (by decide +kernel) (pc' := 31) (lo' := [(0, (2, 35)), (1, (0, h)), (2, (0, a1)), (3, (0, e1)), (4, (0, p)), (5, (0, n))]) (st' := [(2, 35), (0, n)]) rfl ?_
              refine jget hF 13 22 2 22 rfl (by decide) (by decide) rfl wd_1485 (by decide +kernel) (by exact hS.k35) ?_
              rw [SR.r22 hR]
              refine jblk hF [(.iload 4, 2)] (by decide +kernel) (pc' := 36) (lo' := [(0, (2, 35)), (1, (0, h)), (2, (0, a1)), (3, (0, e1)), (4, (0, p)), (5, (0, n))]) (st' := [(0, p), (2, 47), (0, n)]) rfl ?_
              refine jiald hF (by decide +kernel) (by exact hS.k47) (by omega) (by have := hS.l47; omega) ?_
              refine jicmp_ge hF (off := 113) 150 (by decide +kernel) (by decide) (by omega) (by omega) (fun h_11 => ?_) (fun h_11 => ?_)
              · refine jblk hF [(.iinc 4 1, 3)] (by decide +kernel) (pc' := 153) (lo' := [(4, (0, p + 1)), (0, (2, 35)), (1, (0, h)), (2, (0, a1)), (3, (0, e1)), (5, (0, n))]) (st' := []) rfl ?_
                refine jgoto hF (off := (-137)) 16 (by decide +kernel) (by decide) ?_
                refine jsub [1, 2, 3, 4, 0] rfl ?_
                refine ih_3 a1 e1 (p + 1) ?_ ?_ ?_ ?_
                · omega
                · rw [alA_s (by omega)]; rw [ha1]; congr 2; omega
                · rw [baA_s (by omega)]; rw [he1]; congr 2; omega
                · omega
              · refine jblk hF [(.aload_n 0, 1), (.iload 4, 2), (.iload 5, 2)] (by decide +kernel) (pc' := 45) (lo' := [(0, (2, 35)), (1, (0, h)), (2, (0, a1)), (3, (0, e1)), (4, (0, p)), (5, (0, n))]) (st' := [(0, n), (0, p), (2, 35)]) rfl ?_
                refine jcallV hF (c_X12_isMade hG hS hR p n (by first | omega | exact hE.fPG hp | exact (EQ36.f _ _).fPG hp) (by omega)) MW_X12_isMade 13 (by decide) (by exact hS.k35) wd_1942 wd_1944 wd_p74 (by decide +kernel) [] rfl rfl (by decide) (Nat.le_of_ble_eq_true rfl) (by decide) (kB (fun h_12 => ?_) (fun h_12 => ?_))
                · refine jif_eq hF (off := 96) 144 (by decide +kernel) (by decide) (by decide) (fun h => absurd h (by decide)) (fun _ => ?_)
                  have hl := hLH p n (by omega) (by omega) (by omega) (by omega)
                  refine jblk hF [(.aload_n 0, 1)] (by decide +kernel) (pc' := 52) (lo' := [(0, (2, 35)), (1, (0, h)), (2, (0, a1)), (3, (0, e1)), (4, (0, p)), (5, (0, n))]) (st' := [(2, 35)]) rfl ?_
                  refine jget hF 13 29 2 29 rfl (by decide) (by decide) rfl wd_1492 (by decide +kernel) (by exact hS.k35) ?_
                  rw [SR.r29 hR]
                  refine jblk hF [(.bipush 40, 2), (.iload 4, 2), (.imul, 1), (.iload 5, 2), (.iadd, 1)] (by decide +kernel) (pc' := 63) (lo' := [(0, (2, 35)), (1, (0, h)), (2, (0, a1)), (3, (0, e1)), (4, (0, p)), (5, (0, n))]) (st' := [(0, (40 * p) + n), (2, 54)]) rfl ?_
                  refine jiald hF (by decide +kernel) (by exact hS.k54) (by omega) (by have := hS.l54; omega) ?_
                  refine jblk hF [(.iload_n 1, 1)] (by decide +kernel) (pc' := 65) (lo' := [(0, (2, 35)), (1, (0, h)), (2, (0, a1)), (3, (0, e1)), (4, (0, p)), (5, (0, n))]) (st' := [(0, h), (0, mem 54 ((40 * p) + n))]) rfl ?_
                  refine jicmp_eq hF (off := 6) 71 (by decide +kernel) (by decide) (by omega) (by omega) (fun h_14 => ?_) (fun h_14 => ?_)
                  · refine jblk hF [(.iinc 2 1, 3), (.iconst 0, 1), (.istore 6, 2), (.iconst 0, 1), (.istore 7, 2)] (by decide +kernel) (pc' := 80) (lo' := [(7, (0, 0)), (6, (0, 0)), (2, (0, a1 + 1)), (0, (2, 35)), (1, (0, h)), (3, (0, e1)), (4, (0, p)), (5, (0, n))]) (st' := []) rfl ?_
                    have L_16 : ∀ (fu_17 : Nat) (b : Int) (s : Int), (0 ≤ s ∧ s ≤ mem 35 45) → (b = slB mem p n s.toNat ∧ 0 ≤ b ∧ b ≤ 1) →  (mem 35 45 - s).toNat < fu_17 → J z g 8 0 0 (QM z g 0 0 (pV (0, rateV mem h) kd ln mem sz)) 80 [(0, (2, 35)), (1, (0, h)), (2, (0, a1 + 1)), (3, (0, e1)), (4, (0, p)), (5, (0, n)), (6, (0, b)), (7, (0, s))] [] kd ln mem sz := by
                      intro fu_17
                      induction fu_17 with
                      | zero => intro b s _ _ hm; omega
                      | succ fu_17 ih_15 =>
                        intro b s hs1 hb hm2
                        refine jblk hF [(.iload 7, 2), (.aload_n 0, 1)] (by decide +kernel) (pc' := 83) (lo' := [(0, (2, 35)), (1, (0, h)), (2, (0, a1 + 1)), (3, (0, e1)), (4, (0, p)), (5, (0, n)), (6, (0, b)), (7, (0, s))]) (st' := [(2, 35), (0, s)]) rfl ?_
                        refine jget hF 13 45 0 45 rfl (by decide) (by decide) rfl wd_1508 (by decide +kernel) (by exact hS.k35) ?_
                        refine jicmp_ge hF (off := 45) 131 (by decide +kernel) (by decide) (by omega) (by omega) (fun h_18 => ?_) (fun h_18 => ?_)
                        · have hse : s = mem 35 45 := by omega
                          rw [hse] at hb
                          refine jblk hF [(.iload_n 3, 1), (.iload 6, 2)] (by decide +kernel) (pc' := 134) (lo' := [(0, (2, 35)), (1, (0, h)), (2, (0, a1 + 1)), (3, (0, e1)), (4, (0, p)), (5, (0, n)), (6, (0, b)), (7, (0, s))]) (st' := [(0, b), (0, e1)]) rfl ?_
                          refine jif_eq hF (off := 7) 141 (by decide +kernel) (by decide) (by omega) (fun h_19 => ?_) (fun h_19 => ?_)
                          · refine jblk hF [(.iconst 0, 1), (.iadd, 1), (.istore_n 3, 1), (.iinc 5 1, 3)] (by decide +kernel) (pc' := 147) (lo' := [(5, (0, n + 1)), (3, (0, e1 + 0)), (0, (2, 35)), (1, (0, h)), (2, (0, a1 + 1)), (4, (0, p)), (6, (0, b)), (7, (0, s))]) (st' := []) rfl ?_
                            refine jgoto hF (off := (-119)) 28 (by decide +kernel) (by decide) ?_
                            refine jsub [2, 3, 4, 1, 5, 0] rfl ?_
                            refine ih_8 (a1 + 1) (e1 + 0) (n + 1) ?_ ?_ ?_ ?_
                            · omega
                            · rw [alN_s (by omega)]; first | (rw [if_pos (by omega)]; omega) | (rw [if_neg (by omega)]; omega)
                            · rw [baN_s (by omega)]; first | (rw [if_pos (by omega)]; omega) | (rw [if_neg (by omega)]; omega)
                            · omega
                          · refine jblk hF [(.iconst 1, 1)] (by decide +kernel) (pc' := 138) (lo' := [(0, (2, 35)), (1, (0, h)), (2, (0, a1 + 1)), (3, (0, e1)), (4, (0, p)), (5, (0, n)), (6, (0, b)), (7, (0, s))]) (st' := [(0, 1), (0, e1)]) rfl ?_
                            refine jgoto hF (off := 4) 142 (by decide +kernel) (by decide) ?_
                            refine jblk hF [(.iadd, 1), (.istore_n 3, 1), (.iinc 5 1, 3)] (by decide +kernel) (pc' := 147) (lo' := [(5, (0, n + 1)), (3, (0, e1 + 1)), (0, (2, 35)), (1, (0, h)), (2, (0, a1 + 1)), (4, (0, p)), (6, (0, b)), (7, (0, s))]) (st' := []) rfl ?_
                            refine jgoto hF (off := (-119)) 28 (by decide +kernel) (by decide) ?_
                            refine jsub [2, 3, 4, 1, 5, 0] rfl ?_
                            refine ih_8 (a1 + 1) (e1 + 1) (n + 1) ?_ ?_ ?_ ?_
                            · omega
                            · rw [alN_s (by omega)]; first | (rw [if_pos (by omega)]; omega) | (rw [if_neg (by omega)]; omega)
                            · rw [baN_s (by omega)]; first | (rw [if_pos (by omega)]; omega) | (rw [if_neg (by omega)]; omega)
                            · omega
                        · refine jblk hF [(.iload 6, 2)] (by decide +kernel) (pc' := 91) (lo' := [(0, (2, 35)), (1, (0, h)), (2, (0, a1 + 1)), (3, (0, e1)), (4, (0, p)), (5, (0, n)), (6, (0, b)), (7, (0, s))]) (st' := [(0, b)]) rfl ?_
                          refine jif_ne hF (off := 27) 118 (by decide +kernel) (by decide) (by omega) (fun h_20 => ?_) (fun h_20 => ?_)
                          · refine jblk hF [(.iconst 1, 1)] (by decide +kernel) (pc' := 119) (lo' := [(0, (2, 35)), (1, (0, h)), (2, (0, a1 + 1)), (3, (0, e1)), (4, (0, p)), (5, (0, n)), (6, (0, b)), (7, (0, s))]) (st' := [(0, 1)]) rfl ?_
                            refine jgoto hF (off := 4) 123 (by decide +kernel) (by decide) ?_
                            refine jblk hF [(.istore 6, 2), (.iinc 7 1, 3)] (by decide +kernel) (pc' := 128) (lo' := [(7, (0, s + 1)), (6, (0, 1)), (0, (2, 35)), (1, (0, h)), (2, (0, a1 + 1)), (3, (0, e1)), (4, (0, p)), (5, (0, n))]) (st' := []) rfl ?_
                            refine jgoto hF (off := (-48)) 80 (by decide +kernel) (by decide) ?_
                            refine jsub [2, 3, 4, 5, 6, 7, 1, 0] rfl ?_
                            refine ih_15 1 (s + 1) ?_ ?_ ?_
                            · omega
                            · exact ⟨by rw [slB_s (by omega)]; first | exact (if_pos (by omega)).symm | exact (if_neg (by omega)).symm, by omega, by omega⟩
                            · omega
                          · have hs := hSL.2.2 s (by omega) (by omega)
                            refine jblk hF [(.aload_n 0, 1)] (by decide +kernel) (pc' := 95) (lo' := [(0, (2, 35)), (1, (0, h)), (2, (0, a1 + 1)), (3, (0, e1)), (4, (0, p)), (5, (0, n)), (6, (0, b)), (7, (0, s))]) (st' := [(2, 35)]) rfl ?_
                            refine jget hF 13 39 2 39 rfl (by decide) (by decide) rfl wd_1502 (by decide +kernel) (by exact hS.k35) ?_
                            rw [SR.r39 hR]
                            refine jblk hF [(.iload 7, 2)] (by decide +kernel) (pc' := 100) (lo' := [(0, (2, 35)), (1, (0, h)), (2, (0, a1 + 1)), (3, (0, e1)), (4, (0, p)), (5, (0, n)), (6, (0, b)), (7, (0, s))]) (st' := [(0, s), (2, 63)]) rfl ?_
                            refine jiald hF (by decide +kernel) (by exact hS.k63) (by omega) (by have := hS.l63; omega) ?_
                            refine jblk hF [(.iload 4, 2)] (by decide +kernel) (pc' := 103) (lo' := [(0, (2, 35)), (1, (0, h)), (2, (0, a1 + 1)), (3, (0, e1)), (4, (0, p)), (5, (0, n)), (6, (0, b)), (7, (0, s))]) (st' := [(0, p), (0, mem 63 s)]) rfl ?_
                            refine jicmp_ne hF (off := 19) 122 (by decide +kernel) (by decide) (by omega) (by omega) (fun h_21 => ?_) (fun h_21 => ?_)
                            · refine jblk hF [(.iconst 0, 1), (.istore 6, 2), (.iinc 7 1, 3)] (by decide +kernel) (pc' := 128) (lo' := [(7, (0, s + 1)), (6, (0, 0)), (0, (2, 35)), (1, (0, h)), (2, (0, a1 + 1)), (3, (0, e1)), (4, (0, p)), (5, (0, n))]) (st' := []) rfl ?_
                              refine jgoto hF (off := (-48)) 80 (by decide +kernel) (by decide) ?_
                              refine jsub [2, 3, 4, 5, 6, 7, 1, 0] rfl ?_
                              refine ih_15 0 (s + 1) ?_ ?_ ?_
                              · omega
                              · exact ⟨by rw [slB_s (by omega)]; first | exact (if_pos (by omega)).symm | exact (if_neg (by omega)).symm, by omega, by omega⟩
                              · omega
                            · have hsp : mem 63 s = p := by omega
                              unfold SL at hs
                              rw [hsp] at hs
                              refine jblk hF [(.aload_n 0, 1)] (by decide +kernel) (pc' := 107) (lo' := [(0, (2, 35)), (1, (0, h)), (2, (0, a1 + 1)), (3, (0, e1)), (4, (0, p)), (5, (0, n)), (6, (0, b)), (7, (0, s))]) (st' := [(2, 35)]) rfl ?_
                              refine jget hF 13 40 2 40 rfl (by decide) (by decide) rfl wd_1503 (by decide +kernel) (by exact hS.k35) ?_
                              rw [SR.r40 hR]
                              refine jblk hF [(.iload 7, 2)] (by decide +kernel) (pc' := 112) (lo' := [(0, (2, 35)), (1, (0, h)), (2, (0, a1 + 1)), (3, (0, e1)), (4, (0, p)), (5, (0, n)), (6, (0, b)), (7, (0, s))]) (st' := [(0, s), (2, 64)]) rfl ?_
                              refine jiald hF (by decide +kernel) (by exact hS.k64) (by omega) (by have := hS.l64; omega) ?_
                              refine jblk hF [(.iload 5, 2)] (by decide +kernel) (pc' := 115) (lo' := [(0, (2, 35)), (1, (0, h)), (2, (0, a1 + 1)), (3, (0, e1)), (4, (0, p)), (5, (0, n)), (6, (0, b)), (7, (0, s))]) (st' := [(0, n), (0, mem 64 s)]) rfl ?_
                              refine jicmp_ne hF (off := 7) 122 (by decide +kernel) (by decide) (by omega) (by omega) (fun h_22 => ?_) (fun h_22 => ?_)
                              · refine jblk hF [(.iconst 0, 1), (.istore 6, 2), (.iinc 7 1, 3)] (by decide +kernel) (pc' := 128) (lo' := [(7, (0, s + 1)), (6, (0, 0)), (0, (2, 35)), (1, (0, h)), (2, (0, a1 + 1)), (3, (0, e1)), (4, (0, p)), (5, (0, n))]) (st' := []) rfl ?_
                                refine jgoto hF (off := (-48)) 80 (by decide +kernel) (by decide) ?_
                                refine jsub [2, 3, 4, 5, 6, 7, 1, 0] rfl ?_
                                refine ih_15 0 (s + 1) ?_ ?_ ?_
                                · omega
                                · exact ⟨by rw [slB_s (by omega)]; first | exact (if_pos (by omega)).symm | exact (if_neg (by omega)).symm, by omega, by omega⟩
                                · omega
                              · refine jblk hF [(.iconst 1, 1)] (by decide +kernel) (pc' := 119) (lo' := [(0, (2, 35)), (1, (0, h)), (2, (0, a1 + 1)), (3, (0, e1)), (4, (0, p)), (5, (0, n)), (6, (0, b)), (7, (0, s))]) (st' := [(0, 1)]) rfl ?_
                                refine jgoto hF (off := 4) 123 (by decide +kernel) (by decide) ?_
                                refine jblk hF [(.istore 6, 2), (.iinc 7 1, 3)] (by decide +kernel) (pc' := 128) (lo' := [(7, (0, s + 1)), (6, (0, 1)), (0, (2, 35)), (1, (0, h)), (2, (0, a1 + 1)), (3, (0, e1)), (4, (0, p)), (5, (0, n))]) (st' := []) rfl ?_
                                refine jgoto hF (off := (-48)) 80 (by decide +kernel) (by decide) ?_
                                refine jsub [2, 3, 4, 5, 6, 7, 1, 0] rfl ?_
                                refine ih_15 1 (s + 1) ?_ ?_ ?_
                                · omega
                                · exact ⟨by rw [slB_s (by omega)]; first | exact (if_pos (by omega)).symm | exact (if_neg (by omega)).symm, by omega, by omega⟩
                                · omega
                    refine jsub [3, 4, 2, 5, 6, 7, 1, 0] rfl ?_
                    refine L_16 _ 0 0 ?_ ?_ (Nat.lt_succ_self _)
                    · omega
                    · exact ⟨rfl, by omega, by omega⟩
                  · refine jgoto hF (off := 76) 144 (by decide +kernel) (by decide) ?_
                    refine jblk hF [(.iinc 5 1, 3)] (by decide +kernel) (pc' := 147) (lo' := [(5, (0, n + 1)), (0, (2, 35)), (1, (0, h)), (2, (0, a1)), (3, (0, e1)), (4, (0, p))]) (st' := []) rfl ?_
                    refine jgoto hF (off := (-119)) 28 (by decide +kernel) (by decide) ?_
                    refine jsub [1, 2, 3, 4, 5, 0] rfl ?_
                    refine ih_8 a1 e1 (n + 1) ?_ ?_ ?_ ?_
                    · omega
                    · rw [alN_s (by omega)]; first | (rw [if_pos (by omega)]; omega) | (rw [if_neg (by omega)]; omega)
                    · rw [baN_s (by omega)]; first | (rw [if_pos (by omega)]; omega) | (rw [if_neg (by omega)]; omega)
                    · omega
                · refine jif_eq hF (off := 96) 144 (by decide +kernel) (by decide) (by decide) (fun _ => ?_) (fun h => absurd h (by decide))
                  refine jblk hF [(.iinc 5 1, 3)] (by decide +kernel) (pc' := 147) (lo' := [(5, (0, n + 1)), (0, (2, 35)), (1, (0, h)), (2, (0, a1)), (3, (0, e1)), (4, (0, p))]) (st' := []) rfl ?_
                  refine jgoto hF (off := (-119)) 28 (by decide +kernel) (by decide) ?_
                  refine jsub [1, 2, 3, 4, 5, 0] rfl ?_
                  refine ih_8 a1 e1 (n + 1) ?_ ?_ ?_ ?_
                  · omega
                  · rw [alN_s (by omega)]; first | (rw [if_pos (by omega)]; omega) | (rw [if_neg (by omega)]; omega)
                  · rw [baN_s (by omega)]; first | (rw [if_pos (by omega)]; omega) | (rw [if_neg (by omega)]; omega)
                  · omega
          refine jsub [1, 2, 3, 4, 5, 0] rfl ?_
          refine L_9 _ a e 0 ?_ ?_ ?_ (Nat.lt_succ_self _)
          · omega
          · rw [ha]; exact (Int.add_zero _).symm
          · rw [he]; exact (Int.add_zero _).symm
    refine jsub [3, 4, 2, 1, 0] rfl ?_
    refine L_4 _ 0 0 0 ?_ ?_ ?_ (Nat.lt_succ_self _)
    · omega
    · rfl
    · rfl
  · refine jif_ne hF (off := 5) 9 (by decide +kernel) (by decide) (by decide) (fun h => absurd h (by decide)) (fun _ => ?_)
    refine jblk hF [(.iconst (-1), 1)] (by decide +kernel) (pc' := 8) (lo' := [(0, (2, 35)), (1, (0, h))]) (st' := [(0, (-1))]) rfl ?_
    refine jiret hF hr (by decide +kernel) ?_
    exact lV (by exact (if_neg (by omega)).symm)
set_option maxHeartbeats 4000000 in
set_option maxRecDepth 100000 in
theorem c_X12_shut {l : Launch} {g : GP} (hG : GH g) {kd : Int → Nat} {ln : Int → Int} {mem : Int → Int → Int} {sz : Nat} (hS : SK kd ln) (hR : SR mem) (h p n : Int) (h_h : InI h) (h_p : InI p) (h_n : InI n) (hPS : PGS mem) (hLH : LH mem) : MT l g yX12_shut cX12_shut 5 (some .int) 3 0 0 [(2, 35), (0, h), (0, p), (0, n)] kd ln mem sz (pV (0, shutV mem h p n) kd ln mem sz) := by
  refine MT_of hG (by decide +kernel) (Nat.le_of_ble_eq_true rfl) (fun z hF hr hn => ?_)
  refine jblk hF [(.iload_n 1, 1)] (by decide +kernel) (pc' := 1) (lo' := [(0, (2, 35)), (1, (0, h)), (2, (0, p)), (3, (0, n))]) (st' := [(0, h)]) rfl ?_
  refine jcallS hF (c_X12_isHand hG h (by omega)) MW_X12_isHand wd_2138 wd_2139 (by decide +kernel) [] rfl rfl (by decide) (Nat.le_of_ble_eq_true rfl) (by decide) (kB (fun h_1 => ?_) (fun h_1 => ?_))
  · refine jif_eq hF (off := 12) 16 (by decide +kernel) (by decide) (by decide) (fun h => absurd h (by decide)) (fun _ => ?_)
    refine jblk hF [(.aload_n 0, 1), (.iload_n 2, 1), (.iload_n 3, 1)] (by decide +kernel) (pc' := 10) (lo' := [(0, (2, 35)), (1, (0, h)), (2, (0, p)), (3, (0, n))]) (st' := [(0, n), (0, p), (2, 35)]) rfl ?_
    refine jcallV hF (c_X12_isLine hG hS hR p n (by omega) (by omega) (by exact hPS)) MW_X12_isLine 13 (by decide) (by exact hS.k35) wd_1954 wd_1956 wd_p76 (by decide +kernel) [] rfl rfl (by decide) (Nat.le_of_ble_eq_true rfl) (by decide) (kB (fun h_3 => ?_) (fun h_3 => ?_))
    · refine jif_ne hF (off := 5) 18 (by decide +kernel) (by decide) (by decide) (fun _ => ?_) (fun h => absurd h (by decide))
      have hp := hPS.2.2 p (by omega) (by omega)
      have hl := hLH p n (by omega) (by omega) (by omega) (by omega)
      refine jblk hF [(.bipush 40, 2), (.iload_n 2, 1), (.imul, 1), (.iload_n 3, 1), (.iadd, 1), (.istore 4, 2), (.aload_n 0, 1)] (by decide +kernel) (pc' := 27) (lo' := [(4, (0, (40 * p) + n)), (0, (2, 35)), (1, (0, h)), (2, (0, p)), (3, (0, n))]) (st' := [(2, 35)]) rfl ?_
      refine jget hF 13 30 2 30 rfl (by decide) (by decide) rfl wd_1493 (by decide +kernel) (by exact hS.k35) ?_
      rw [SR.r30 hR]
      refine jblk hF [(.iload 4, 2)] (by decide +kernel) (pc' := 32) (lo' := [(4, (0, (40 * p) + n)), (0, (2, 35)), (1, (0, h)), (2, (0, p)), (3, (0, n))]) (st' := [(0, (40 * p) + n), (2, 55)]) rfl ?_
      refine jiald hF (by decide +kernel) (by exact hS.k55) (by omega) (by have := hS.l55; omega) ?_
      refine jblk hF [(.iload_n 1, 1), (.ishr, 1), (.iconst 1, 1), (.iand, 1)] (by decide +kernel) (pc' := 37) (lo' := [(4, (0, (40 * p) + n)), (0, (2, 35)), (1, (0, h)), (2, (0, p)), (3, (0, n))]) (st' := [(0, fand (fishr (mem 55 ((40 * p) + n)) h) 1)]) rfl ?_
      have hfi := fand_in (fishr (mem 55 (40 * p + n)) h) 1
      refine jif_ne hF (off := 18) 55 (by decide +kernel) (by decide) (by omega) (fun h_5 => ?_) (fun h_5 => ?_)
      · refine jblk hF [(.iconst 0, 1)] (by decide +kernel) (pc' := 56) (lo' := [(4, (0, (40 * p) + n)), (0, (2, 35)), (1, (0, h)), (2, (0, p)), (3, (0, n))]) (st' := [(0, 0)]) rfl ?_
        refine jiret hF hr (by decide +kernel) ?_
        exact lV (by unfold shutV; (repeat' split) <;> first | rfl | omega)
      · refine jblk hF [(.aload_n 0, 1)] (by decide +kernel) (pc' := 41) (lo' := [(4, (0, (40 * p) + n)), (0, (2, 35)), (1, (0, h)), (2, (0, p)), (3, (0, n))]) (st' := [(2, 35)]) rfl ?_
        refine jget hF 13 29 2 29 rfl (by decide) (by decide) rfl wd_1492 (by decide +kernel) (by exact hS.k35) ?_
        rw [SR.r29 hR]
        refine jblk hF [(.iload 4, 2)] (by decide +kernel) (pc' := 46) (lo' := [(4, (0, (40 * p) + n)), (0, (2, 35)), (1, (0, h)), (2, (0, p)), (3, (0, n))]) (st' := [(0, (40 * p) + n), (2, 54)]) rfl ?_
        refine jiald hF (by decide +kernel) (by exact hS.k54) (by omega) (by have := hS.l54; omega) ?_
        refine jblk hF [(.iload_n 1, 1)] (by decide +kernel) (pc' := 48) (lo' := [(4, (0, (40 * p) + n)), (0, (2, 35)), (1, (0, h)), (2, (0, p)), (3, (0, n))]) (st' := [(0, h), (0, mem 54 ((40 * p) + n))]) rfl ?_
        refine jicmp_eq hF (off := 7) 55 (by decide +kernel) (by decide) (by omega) (by omega) (fun h_6 => ?_) (fun h_6 => ?_)
        · refine jblk hF [(.iconst 0, 1)] (by decide +kernel) (pc' := 56) (lo' := [(4, (0, (40 * p) + n)), (0, (2, 35)), (1, (0, h)), (2, (0, p)), (3, (0, n))]) (st' := [(0, 0)]) rfl ?_
          refine jiret hF hr (by decide +kernel) ?_
          exact lV (by unfold shutV; (repeat' split) <;> first | rfl | omega)
        · refine jblk hF [(.iconst 1, 1)] (by decide +kernel) (pc' := 52) (lo' := [(4, (0, (40 * p) + n)), (0, (2, 35)), (1, (0, h)), (2, (0, p)), (3, (0, n))]) (st' := [(0, 1)]) rfl ?_
          refine jgoto hF (off := 4) 56 (by decide +kernel) (by decide) ?_
          refine jiret hF hr (by decide +kernel) ?_
          exact lV (by unfold shutV; (repeat' split) <;> first | rfl | omega)
    · refine jif_ne hF (off := 5) 18 (by decide +kernel) (by decide) (by decide) (fun h => absurd h (by decide)) (fun _ => ?_)
      refine jblk hF [(.iconst (-1), 1)] (by decide +kernel) (pc' := 17) (lo' := [(0, (2, 35)), (1, (0, h)), (2, (0, p)), (3, (0, n))]) (st' := [(0, (-1))]) rfl ?_
      refine jiret hF hr (by decide +kernel) ?_
      exact lV (by unfold shutV; (repeat' split) <;> first | rfl | omega)
  · refine jif_eq hF (off := 12) 16 (by decide +kernel) (by decide) (by decide) (fun _ => ?_) (fun h => absurd h (by decide))
    refine jblk hF [(.iconst (-1), 1)] (by decide +kernel) (pc' := 17) (lo' := [(0, (2, 35)), (1, (0, h)), (2, (0, p)), (3, (0, n))]) (st' := [(0, (-1))]) rfl ?_
    refine jiret hF hr (by decide +kernel) ?_
    exact lV (by unfold shutV; (repeat' split) <;> first | rfl | omega)
set_option maxHeartbeats 4000000 in
set_option maxRecDepth 100000 in
theorem c_X12_doubled {l : Launch} {g : GP} (hG : GH g) {kd : Int → Nat} {ln : Int → Int} {mem : Int → Int → Int} {sz : Nat} (hS : SK kd ln) (hR : SR mem) (x y a b e : Int) (h_x : InI x) (h_y : InI y) (h_a : InI a) (h_b : InI b) (h_e : InI e) (hDB : DBS mem) : MT l g yX12_doubled cX12_doubled 6 (some .boolean) 2 0 0 [(2, 35), (0, x), (0, y), (0, a), (0, b), (0, e)] kd ln mem sz (pMB (fun c mem' => SR mem' ∧ ((c ↔ dblC mem x y a b e) ∧ mem' = (if dblC mem x y a b e then dblM mem x y a b e else mem))) kd ln sz) := by
  refine MT_of hG (by decide +kernel) (Nat.le_of_ble_eq_true rfl) (fun z hF hr hn => ?_)
  refine jblk hF [(.iload_n 1, 1)] (by decide +kernel) (pc' := 1) (lo' := [(0, (2, 35)), (1, (0, x)), (2, (0, y)), (3, (0, a)), (4, (0, b)), (5, (0, e))]) (st' := [(0, x)]) rfl ?_
  refine jcallS hF (c_X12_isHand hG x (by omega)) MW_X12_isHand wd_2138 wd_2139 (by decide +kernel) [] rfl rfl (by decide) (Nat.le_of_ble_eq_true rfl) (by decide) (kB (fun h_1 => ?_) (fun h_1 => ?_))
  · refine jif_eq hF (off := 59) 63 (by decide +kernel) (by decide) (by decide) (fun h => absurd h (by decide)) (fun _ => ?_)
    refine jblk hF [(.iload_n 2, 1)] (by decide +kernel) (pc' := 8) (lo' := [(0, (2, 35)), (1, (0, x)), (2, (0, y)), (3, (0, a)), (4, (0, b)), (5, (0, e))]) (st' := [(0, y)]) rfl ?_
    refine jcallS hF (c_X12_isHand hG y (by omega)) MW_X12_isHand wd_2138 wd_2139 (by decide +kernel) [] rfl rfl (by decide) (Nat.le_of_ble_eq_true rfl) (by decide) (kB (fun h_3 => ?_) (fun h_3 => ?_))
    · refine jif_eq hF (off := 52) 63 (by decide +kernel) (by decide) (by decide) (fun h => absurd h (by decide)) (fun _ => ?_)
      refine jblk hF [(.iload_n 1, 1), (.iload_n 2, 1)] (by decide +kernel) (pc' := 16) (lo' := [(0, (2, 35)), (1, (0, x)), (2, (0, y)), (3, (0, a)), (4, (0, b)), (5, (0, e))]) (st' := [(0, y), (0, x)]) rfl ?_
      refine jicmp_eq hF (off := 47) 63 (by decide +kernel) (by decide) (by omega) (by omega) (fun h_5 => ?_) (fun h_5 => ?_)
      · refine jblk hF [(.iconst 0, 1)] (by decide +kernel) (pc' := 64) (lo' := [(0, (2, 35)), (1, (0, x)), (2, (0, y)), (3, (0, a)), (4, (0, b)), (5, (0, e))]) (st' := [(0, 0)]) rfl ?_
        refine jzret hF hr (by omega) (by decide +kernel) ?_
        exact lMB0 ⟨hR, by first | exact ⟨⟨fun h => h.elim, fun h => absurd h (by omega)⟩, (if_neg (by omega)).symm⟩ | exact ⟨⟨fun _ => by omega, fun _ => trivial⟩, (if_pos (by omega)).symm⟩⟩
      · refine jblk hF [(.iload_n 3, 1), (.iconst 0, 1), (.sipush 1000, 3)] (by decide +kernel) (pc' := 24) (lo' := [(0, (2, 35)), (1, (0, x)), (2, (0, y)), (3, (0, a)), (4, (0, b)), (5, (0, e))]) (st' := [(0, 1000), (0, 0), (0, a)]) rfl ?_
        refine jcallS hF (c_X12_in hG a 0 1000 (by omega) (by decide) (by decide)) MW_X12_in wd_1743 wd_1744 (by decide +kernel) [] rfl rfl (by decide) (Nat.le_of_ble_eq_true rfl) (by decide) (kB (fun h_6 => ?_) (fun h_6 => ?_))
        · refine jif_eq hF (off := 36) 63 (by decide +kernel) (by decide) (by decide) (fun h => absurd h (by decide)) (fun _ => ?_)
          refine jblk hF [(.iload 4, 2), (.iconst 0, 1), (.sipush 1000, 3)] (by decide +kernel) (pc' := 36) (lo' := [(0, (2, 35)), (1, (0, x)), (2, (0, y)), (3, (0, a)), (4, (0, b)), (5, (0, e))]) (st' := [(0, 1000), (0, 0), (0, b)]) rfl ?_
          refine jcallS hF (c_X12_in hG b 0 1000 (by omega) (by decide) (by decide)) MW_X12_in wd_1743 wd_1744 (by decide +kernel) [] rfl rfl (by decide) (Nat.le_of_ble_eq_true rfl) (by decide) (kB (fun h_8 => ?_) (fun h_8 => ?_))
          · refine jif_eq hF (off := 24) 63 (by decide +kernel) (by decide) (by decide) (fun h => absurd h (by decide)) (fun _ => ?_)
            refine jblk hF [(.iload 5, 2), (.iconst 0, 1), (.sipush 1000, 3)] (by decide +kernel) (pc' := 48) (lo' := [(0, (2, 35)), (1, (0, x)), (2, (0, y)), (3, (0, a)), (4, (0, b)), (5, (0, e))]) (st' := [(0, 1000), (0, 0), (0, e)]) rfl ?_
            refine jcallS hF (c_X12_in hG e 0 1000 (by omega) (by decide) (by decide)) MW_X12_in wd_1743 wd_1744 (by decide +kernel) [] rfl rfl (by decide) (Nat.le_of_ble_eq_true rfl) (by decide) (kB (fun h_10 => ?_) (fun h_10 => ?_))
            · refine jif_eq hF (off := 12) 63 (by decide +kernel) (by decide) (by decide) (fun h => absurd h (by decide)) (fun _ => ?_)
              refine jblk hF [(.aload_n 0, 1)] (by decide +kernel) (pc' := 55) (lo' := [(0, (2, 35)), (1, (0, x)), (2, (0, y)), (3, (0, a)), (4, (0, b)), (5, (0, e))]) (st' := [(2, 35)]) rfl ?_
              refine jget hF 13 65 0 65 rfl (by decide) (by decide) rfl wd_1528 (by decide +kernel) (by exact hS.k35) ?_
              refine jblk hF [(.bipush 40, 2)] (by decide +kernel) (pc' := 60) (lo' := [(0, (2, 35)), (1, (0, x)), (2, (0, y)), (3, (0, a)), (4, (0, b)), (5, (0, e))]) (st' := [(0, 40), (0, mem 35 65)]) rfl ?_
              refine jicmp_ne hF (off := 5) 65 (by decide +kernel) (by decide) (by omega) (by decide) (fun h_12 => ?_) (fun h_12 => ?_)
              · refine jblk hF [(.aload_n 0, 1)] (by decide +kernel) (pc' := 66) (lo' := [(0, (2, 35)), (1, (0, x)), (2, (0, y)), (3, (0, a)), (4, (0, b)), (5, (0, e))]) (st' := [(2, 35)]) rfl ?_
                refine jget hF 13 60 2 60 rfl (by decide) (by decide) rfl wd_1523 (by decide +kernel) (by exact hS.k35) ?_
                rw [SR.r60 hR]
                refine jblk hF [(.aload_n 0, 1)] (by decide +kernel) (pc' := 70) (lo' := [(0, (2, 35)), (1, (0, x)), (2, (0, y)), (3, (0, a)), (4, (0, b)), (5, (0, e))]) (st' := [(2, 35), (2, 77)]) rfl ?_
                refine jget hF 13 65 0 65 rfl (by decide) (by decide) rfl wd_1528 (by decide +kernel) (by exact hS.k35) ?_
                refine jblk hF [(.iload_n 1, 1)] (by decide +kernel) (pc' := 74) (lo' := [(0, (2, 35)), (1, (0, x)), (2, (0, y)), (3, (0, a)), (4, (0, b)), (5, (0, e))]) (st' := [(0, x), (0, mem 35 65), (2, 77)]) rfl ?_
                refine jiast hF (by decide +kernel) (by decide) (by exact hS.k77) (by omega) (by have := hS.l77; omega) ?_
                refine jblk hF [(.aload_n 0, 1)] (by decide +kernel) (pc' := 76) (lo' := [(0, (2, 35)), (1, (0, x)), (2, (0, y)), (3, (0, a)), (4, (0, b)), (5, (0, e))]) (st' := [(2, 35)]) rfl ?_
                refine jget hF 13 61 2 61 rfl (by decide) (by decide) rfl wd_1524 (by decide +kernel) (by exact hS.k35) ?_
                rw [SR.r61 (SR.s hR (Or.inl (by decide)))]
                refine jblk hF [(.aload_n 0, 1)] (by decide +kernel) (pc' := 80) (lo' := [(0, (2, 35)), (1, (0, x)), (2, (0, y)), (3, (0, a)), (4, (0, b)), (5, (0, e))]) (st' := [(2, 35), (2, 78)]) rfl ?_
                refine jget hF 13 65 0 65 rfl (by decide) (by decide) rfl wd_1528 (by decide +kernel) (by exact hS.k35) ?_
                rw [show (set2 mem 77 (mem 35 65) x) 35 65 = mem 35 65 from (s2_a (by decide))]
                refine jblk hF [(.iload_n 2, 1)] (by decide +kernel) (pc' := 84) (lo' := [(0, (2, 35)), (1, (0, x)), (2, (0, y)), (3, (0, a)), (4, (0, b)), (5, (0, e))]) (st' := [(0, y), (0, mem 35 65), (2, 78)]) rfl ?_
                refine jiast hF (by decide +kernel) (by decide) (by exact hS.k78) (by omega) (by have := hS.l78; omega) ?_
                refine jblk hF [(.aload_n 0, 1)] (by decide +kernel) (pc' := 86) (lo' := [(0, (2, 35)), (1, (0, x)), (2, (0, y)), (3, (0, a)), (4, (0, b)), (5, (0, e))]) (st' := [(2, 35)]) rfl ?_
                refine jget hF 13 62 2 62 rfl (by decide) (by decide) rfl wd_1525 (by decide +kernel) (by exact hS.k35) ?_
                rw [SR.r62 (SR.s (SR.s hR (Or.inl (by decide))) (Or.inl (by decide)))]
                refine jblk hF [(.aload_n 0, 1)] (by decide +kernel) (pc' := 90) (lo' := [(0, (2, 35)), (1, (0, x)), (2, (0, y)), (3, (0, a)), (4, (0, b)), (5, (0, e))]) (st' := [(2, 35), (2, 79)]) rfl ?_
                refine jget hF 13 65 0 65 rfl (by decide) (by decide) rfl wd_1528 (by decide +kernel) (by exact hS.k35) ?_
                rw [show (set2 (set2 mem 77 (mem 35 65) x) 78 (mem 35 65) y) 35 65 = mem 35 65 from ((s2_a (by decide)).trans (s2_a (by decide)))]
                refine jblk hF [(.iload_n 3, 1)] (by decide +kernel) (pc' := 94) (lo' := [(0, (2, 35)), (1, (0, x)), (2, (0, y)), (3, (0, a)), (4, (0, b)), (5, (0, e))]) (st' := [(0, a), (0, mem 35 65), (2, 79)]) rfl ?_
                refine jiast hF (by decide +kernel) (by decide) (by exact hS.k79) (by omega) (by have := hS.l79; omega) ?_
                refine jblk hF [(.aload_n 0, 1)] (by decide +kernel) (pc' := 96) (lo' := [(0, (2, 35)), (1, (0, x)), (2, (0, y)), (3, (0, a)), (4, (0, b)), (5, (0, e))]) (st' := [(2, 35)]) rfl ?_
                refine jget hF 13 63 2 63 rfl (by decide) (by decide) rfl wd_1526 (by decide +kernel) (by exact hS.k35) ?_
                rw [SR.r63 (SR.s (SR.s (SR.s hR (Or.inl (by decide))) (Or.inl (by decide))) (Or.inl (by decide)))]
                refine jblk hF [(.aload_n 0, 1)] (by decide +kernel) (pc' := 100) (lo' := [(0, (2, 35)), (1, (0, x)), (2, (0, y)), (3, (0, a)), (4, (0, b)), (5, (0, e))]) (st' := [(2, 35), (2, 80)]) rfl ?_
                refine jget hF 13 65 0 65 rfl (by decide) (by decide) rfl wd_1528 (by decide +kernel) (by exact hS.k35) ?_
                rw [show (set2 (set2 (set2 mem 77 (mem 35 65) x) 78 (mem 35 65) y) 79 (mem 35 65) a) 35 65 = mem 35 65 from ((s2_a (by decide)).trans ((s2_a (by decide)).trans (s2_a (by decide))))]
                refine jblk hF [(.iload 4, 2)] (by decide +kernel) (pc' := 105) (lo' := [(0, (2, 35)), (1, (0, x)), (2, (0, y)), (3, (0, a)), (4, (0, b)), (5, (0, e))]) (st' := [(0, b), (0, mem 35 65), (2, 80)]) rfl ?_
                refine jiast hF (by decide +kernel) (by decide) (by exact hS.k80) (by omega) (by have := hS.l80; omega) ?_
                refine jblk hF [(.aload_n 0, 1)] (by decide +kernel) (pc' := 107) (lo' := [(0, (2, 35)), (1, (0, x)), (2, (0, y)), (3, (0, a)), (4, (0, b)), (5, (0, e))]) (st' := [(2, 35)]) rfl ?_
                refine jget hF 13 64 2 64 rfl (by decide) (by decide) rfl wd_1527 (by decide +kernel) (by exact hS.k35) ?_
                rw [SR.r64 (SR.s (SR.s (SR.s (SR.s hR (Or.inl (by decide))) (Or.inl (by decide))) (Or.inl (by decide))) (Or.inl (by decide)))]
                refine jblk hF [(.aload_n 0, 1)] (by decide +kernel) (pc' := 111) (lo' := [(0, (2, 35)), (1, (0, x)), (2, (0, y)), (3, (0, a)), (4, (0, b)), (5, (0, e))]) (st' := [(2, 35), (2, 81)]) rfl ?_
                refine jget hF 13 65 0 65 rfl (by decide) (by decide) rfl wd_1528 (by decide +kernel) (by exact hS.k35) ?_
                rw [show (set2 (set2 (set2 (set2 mem 77 (mem 35 65) x) 78 (mem 35 65) y) 79 (mem 35 65) a) 80 (mem 35 65) b) 35 65 = mem 35 65 from ((s2_a (by decide)).trans ((s2_a (by decide)).trans ((s2_a (by decide)).trans (s2_a (by decide)))))]
                refine jblk hF [(.iload 5, 2)] (by decide +kernel) (pc' := 116) (lo' := [(0, (2, 35)), (1, (0, x)), (2, (0, y)), (3, (0, a)), (4, (0, b)), (5, (0, e))]) (st' := [(0, e), (0, mem 35 65), (2, 81)]) rfl ?_
                refine jiast hF (by decide +kernel) (by decide) (by exact hS.k81) (by omega) (by have := hS.l81; omega) ?_
                refine jblk hF [(.aload_n 0, 1), (.dup, 1)] (by decide +kernel) (pc' := 119) (lo' := [(0, (2, 35)), (1, (0, x)), (2, (0, y)), (3, (0, a)), (4, (0, b)), (5, (0, e))]) (st' := [(2, 35), (2, 35)]) rfl ?_
                refine jget hF 13 65 0 65 rfl (by decide) (by decide) rfl wd_1528 (by decide +kernel) (by exact hS.k35) ?_
                rw [show (set2 (set2 (set2 (set2 (set2 mem 77 (mem 35 65) x) 78 (mem 35 65) y) 79 (mem 35 65) a) 80 (mem 35 65) b) 81 (mem 35 65) e) 35 65 = mem 35 65 from ((s2_a (by decide)).trans ((s2_a (by decide)).trans ((s2_a (by decide)).trans ((s2_a (by decide)).trans (s2_a (by decide))))))]
                refine jblk hF [(.iconst 1, 1), (.iadd, 1)] (by decide +kernel) (pc' := 124) (lo' := [(0, (2, 35)), (1, (0, x)), (2, (0, y)), (3, (0, a)), (4, (0, b)), (5, (0, e))]) (st' := [(0, (mem 35 65) + 1), (2, 35)]) rfl ?_
                refine jput hF 13 65 0 65 rfl (by decide) (by decide) rfl wd_1528 (by decide +kernel) rfl (Or.inl rfl) (by exact hS.k35) (fun h => by cases h) ?_
                refine jblk hF [(.iconst 1, 1)] (by decide +kernel) (pc' := 128) (lo' := [(0, (2, 35)), (1, (0, x)), (2, (0, y)), (3, (0, a)), (4, (0, b)), (5, (0, e))]) (st' := [(0, 1)]) rfl ?_
                refine jzret hF hr (by omega) (by decide +kernel) ?_
                exact lMB1 ⟨(SR.s (SR.s (SR.s (SR.s (SR.s (SR.s hR (Or.inl (by decide))) (Or.inl (by decide))) (Or.inl (by decide))) (Or.inl (by decide))) (Or.inl (by decide))) (Or.inr (by decide))), by first | exact ⟨⟨fun h => h.elim, fun h => absurd h (by omega)⟩, (if_neg (by omega)).symm⟩ | exact ⟨⟨fun _ => by omega, fun _ => trivial⟩, (if_pos (by omega)).symm⟩⟩
              · refine jblk hF [(.iconst 0, 1)] (by decide +kernel) (pc' := 64) (lo' := [(0, (2, 35)), (1, (0, x)), (2, (0, y)), (3, (0, a)), (4, (0, b)), (5, (0, e))]) (st' := [(0, 0)]) rfl ?_
                refine jzret hF hr (by omega) (by decide +kernel) ?_
                exact lMB0 ⟨hR, by first | exact ⟨⟨fun h => h.elim, fun h => absurd h (by omega)⟩, (if_neg (by omega)).symm⟩ | exact ⟨⟨fun _ => by omega, fun _ => trivial⟩, (if_pos (by omega)).symm⟩⟩
            · refine jif_eq hF (off := 12) 63 (by decide +kernel) (by decide) (by decide) (fun _ => ?_) (fun h => absurd h (by decide))
              refine jblk hF [(.iconst 0, 1)] (by decide +kernel) (pc' := 64) (lo' := [(0, (2, 35)), (1, (0, x)), (2, (0, y)), (3, (0, a)), (4, (0, b)), (5, (0, e))]) (st' := [(0, 0)]) rfl ?_
              refine jzret hF hr (by omega) (by decide +kernel) ?_
              exact lMB0 ⟨hR, by first | exact ⟨⟨fun h => h.elim, fun h => absurd h (by omega)⟩, (if_neg (by omega)).symm⟩ | exact ⟨⟨fun _ => by omega, fun _ => trivial⟩, (if_pos (by omega)).symm⟩⟩
          · refine jif_eq hF (off := 24) 63 (by decide +kernel) (by decide) (by decide) (fun _ => ?_) (fun h => absurd h (by decide))
            refine jblk hF [(.iconst 0, 1)] (by decide +kernel) (pc' := 64) (lo' := [(0, (2, 35)), (1, (0, x)), (2, (0, y)), (3, (0, a)), (4, (0, b)), (5, (0, e))]) (st' := [(0, 0)]) rfl ?_
            refine jzret hF hr (by omega) (by decide +kernel) ?_
            exact lMB0 ⟨hR, by first | exact ⟨⟨fun h => h.elim, fun h => absurd h (by omega)⟩, (if_neg (by omega)).symm⟩ | exact ⟨⟨fun _ => by omega, fun _ => trivial⟩, (if_pos (by omega)).symm⟩⟩
        · refine jif_eq hF (off := 36) 63 (by decide +kernel) (by decide) (by decide) (fun _ => ?_) (fun h => absurd h (by decide))
          refine jblk hF [(.iconst 0, 1)] (by decide +kernel) (pc' := 64) (lo' := [(0, (2, 35)), (1, (0, x)), (2, (0, y)), (3, (0, a)), (4, (0, b)), (5, (0, e))]) (st' := [(0, 0)]) rfl ?_
          refine jzret hF hr (by omega) (by decide +kernel) ?_
          exact lMB0 ⟨hR, by first | exact ⟨⟨fun h => h.elim, fun h => absurd h (by omega)⟩, (if_neg (by omega)).symm⟩ | exact ⟨⟨fun _ => by omega, fun _ => trivial⟩, (if_pos (by omega)).symm⟩⟩
    · refine jif_eq hF (off := 52) 63 (by decide +kernel) (by decide) (by decide) (fun _ => ?_) (fun h => absurd h (by decide))
      refine jblk hF [(.iconst 0, 1)] (by decide +kernel) (pc' := 64) (lo' := [(0, (2, 35)), (1, (0, x)), (2, (0, y)), (3, (0, a)), (4, (0, b)), (5, (0, e))]) (st' := [(0, 0)]) rfl ?_
      refine jzret hF hr (by omega) (by decide +kernel) ?_
      exact lMB0 ⟨hR, by first | exact ⟨⟨fun h => h.elim, fun h => absurd h (by omega)⟩, (if_neg (by omega)).symm⟩ | exact ⟨⟨fun _ => by omega, fun _ => trivial⟩, (if_pos (by omega)).symm⟩⟩
  · refine jif_eq hF (off := 59) 63 (by decide +kernel) (by decide) (by decide) (fun _ => ?_) (fun h => absurd h (by decide))
    refine jblk hF [(.iconst 0, 1)] (by decide +kernel) (pc' := 64) (lo' := [(0, (2, 35)), (1, (0, x)), (2, (0, y)), (3, (0, a)), (4, (0, b)), (5, (0, e))]) (st' := [(0, 0)]) rfl ?_
    refine jzret hF hr (by omega) (by decide +kernel) ?_
    exact lMB0 ⟨hR, by first | exact ⟨⟨fun h => h.elim, fun h => absurd h (by omega)⟩, (if_neg (by omega)).symm⟩ | exact ⟨⟨fun _ => by omega, fun _ => trivial⟩, (if_pos (by omega)).symm⟩⟩
set_option maxHeartbeats 4000000 in
set_option maxRecDepth 100000 in
theorem c_X12_left {l : Launch} {g : GP} (hG : GH g) {kd : Int → Nat} {ln : Int → Int} {mem : Int → Int → Int} {sz : Nat} (hS : SK kd ln) (hR : SR mem) (x y : Int) (h_x : InI x) (h_y : InI y) (hDB : DBS mem) : MT l g yX12_left cX12_left 5 (some .int) 0 0 0 [(2, 35), (0, x), (0, y)] kd ln mem sz (pV (0, leftV mem x y) kd ln mem sz) := by
  refine MT_of hG (by decide +kernel) (Nat.le_of_ble_eq_true rfl) (fun z hF hr hn => ?_)
  refine jblk hF [(.iconst (-1), 1), (.istore_n 3, 1), (.iconst 0, 1), (.istore 4, 2)] (by decide +kernel) (pc' := 5) (lo' := [(4, (0, 0)), (3, (0, (-1))), (0, (2, 35)), (1, (0, x)), (2, (0, y))]) (st' := []) rfl ?_
  have L_2 : ∀ (fu_3 : Nat) (i : Int) (k : Int), (0 ≤ k ∧ k ≤ mem 35 65) → (i = lsN mem x y k.toNat ∧ -1 ≤ i ∧ i < k) →  (mem 35 65 - k).toNat < fu_3 → J z g 5 0 0 (QM z g 0 0 (pV (0, leftV mem x y) kd ln mem sz)) 5 [(0, (2, 35)), (1, (0, x)), (2, (0, y)), (3, (0, i)), (4, (0, k))] [] kd ln mem sz := by
    intro fu_3
    induction fu_3 with
    | zero => intro i k _ _ hm; omega
    | succ fu_3 ih_1 =>
      intro i k hk hi hm
      refine jblk hF [(.iload 4, 2), (.aload_n 0, 1)] (by decide +kernel) (pc' := 8) (lo' := [(0, (2, 35)), (1, (0, x)), (2, (0, y)), (3, (0, i)), (4, (0, k))]) (st' := [(2, 35), (0, k)]) rfl ?_
      refine jget hF 13 65 0 65 rfl (by decide) (by decide) rfl wd_1528 (by decide +kernel) (by exact hS.k35) ?_
      refine jicmp_ge hF (off := 56) 67 (by decide +kernel) (by decide) (by omega) (by omega) (fun h_4 => ?_) (fun h_4 => ?_)
      · have hke : k = mem 35 65 := by omega
        rw [hke] at hi
        refine jblk hF [(.iload_n 3, 1), (.iconst (-1), 1)] (by decide +kernel) (pc' := 69) (lo' := [(0, (2, 35)), (1, (0, x)), (2, (0, y)), (3, (0, i)), (4, (0, k))]) (st' := [(0, (-1)), (0, i)]) rfl ?_
        refine jicmp_ne hF (off := 5) 74 (by decide +kernel) (by decide) (by omega) (by decide) (fun h_5 => ?_) (fun h_5 => ?_)
        · have hd := hDB.2.2 i (by omega) (by omega)
          have hm5 := mul_bd (a := mem 79 i) (b := mem 80 i) (M := 1000) (N := 1000) (by omega) (by omega)
          refine jblk hF [(.aload_n 0, 1)] (by decide +kernel) (pc' := 75) (lo' := [(0, (2, 35)), (1, (0, x)), (2, (0, y)), (3, (0, i)), (4, (0, k))]) (st' := [(2, 35)]) rfl ?_
          refine jget hF 13 62 2 62 rfl (by decide) (by decide) rfl wd_1525 (by decide +kernel) (by exact hS.k35) ?_
          rw [SR.r62 hR]
          refine jblk hF [(.iload_n 3, 1)] (by decide +kernel) (pc' := 79) (lo' := [(0, (2, 35)), (1, (0, x)), (2, (0, y)), (3, (0, i)), (4, (0, k))]) (st' := [(0, i), (2, 79)]) rfl ?_
          refine jiald hF (by decide +kernel) (by exact hS.k79) (by omega) (by have := hS.l79; omega) ?_
          refine jblk hF [(.aload_n 0, 1)] (by decide +kernel) (pc' := 81) (lo' := [(0, (2, 35)), (1, (0, x)), (2, (0, y)), (3, (0, i)), (4, (0, k))]) (st' := [(2, 35), (0, mem 79 i)]) rfl ?_
          refine jget hF 13 63 2 63 rfl (by decide) (by decide) rfl wd_1526 (by decide +kernel) (by exact hS.k35) ?_
          rw [SR.r63 hR]
          refine jblk hF [(.iload_n 3, 1)] (by decide +kernel) (pc' := 85) (lo' := [(0, (2, 35)), (1, (0, x)), (2, (0, y)), (3, (0, i)), (4, (0, k))]) (st' := [(0, i), (2, 80), (0, mem 79 i)]) rfl ?_
          refine jiald hF (by decide +kernel) (by exact hS.k80) (by omega) (by have := hS.l80; omega) ?_
          refine jblk hF [(.imul, 1), (.istore 4, 2), (.aload_n 0, 1)] (by decide +kernel) (pc' := 90) (lo' := [(4, (0, (mem 79 i) * (mem 80 i))), (0, (2, 35)), (1, (0, x)), (2, (0, y)), (3, (0, i))]) (st' := [(2, 35)]) rfl ?_
          refine jget hF 13 64 2 64 rfl (by decide) (by decide) rfl wd_1527 (by decide +kernel) (by exact hS.k35) ?_
          rw [SR.r64 hR]
          refine jblk hF [(.iload_n 3, 1)] (by decide +kernel) (pc' := 94) (lo' := [(4, (0, (mem 79 i) * (mem 80 i))), (0, (2, 35)), (1, (0, x)), (2, (0, y)), (3, (0, i))]) (st' := [(0, i), (2, 81)]) rfl ?_
          refine jiald hF (by decide +kernel) (by exact hS.k81) (by omega) (by have := hS.l81; omega) ?_
          refine jif_ne hF (off := 14) 109 (by decide +kernel) (by decide) (by omega) (fun h_6 => ?_) (fun h_6 => ?_)
          · refine jblk hF [(.iload 4, 2), (.aload_n 0, 1)] (by decide +kernel) (pc' := 112) (lo' := [(4, (0, (mem 79 i) * (mem 80 i))), (0, (2, 35)), (1, (0, x)), (2, (0, y)), (3, (0, i))]) (st' := [(2, 35), (0, (mem 79 i) * (mem 80 i))]) rfl ?_
            refine jget hF 13 64 2 64 rfl (by decide) (by decide) rfl wd_1527 (by decide +kernel) (by exact hS.k35) ?_
            rw [SR.r64 hR]
            refine jblk hF [(.iload_n 3, 1)] (by decide +kernel) (pc' := 116) (lo' := [(4, (0, (mem 79 i) * (mem 80 i))), (0, (2, 35)), (1, (0, x)), (2, (0, y)), (3, (0, i))]) (st' := [(0, i), (2, 81), (0, (mem 79 i) * (mem 80 i))]) rfl ?_
            refine jiald hF (by decide +kernel) (by exact hS.k81) (by omega) (by have := hS.l81; omega) ?_
            refine jblk hF [(.iadd, 1), (.iconst 1, 1), (.isub, 1), (.aload_n 0, 1)] (by decide +kernel) (pc' := 121) (lo' := [(4, (0, (mem 79 i) * (mem 80 i))), (0, (2, 35)), (1, (0, x)), (2, (0, y)), (3, (0, i))]) (st' := [(2, 35), (0, (((mem 79 i) * (mem 80 i)) + (mem 81 i)) - 1)]) rfl ?_
            refine jget hF 13 64 2 64 rfl (by decide) (by decide) rfl wd_1527 (by decide +kernel) (by exact hS.k35) ?_
            rw [SR.r64 hR]
            refine jblk hF [(.iload_n 3, 1)] (by decide +kernel) (pc' := 125) (lo' := [(4, (0, (mem 79 i) * (mem 80 i))), (0, (2, 35)), (1, (0, x)), (2, (0, y)), (3, (0, i))]) (st' := [(0, i), (2, 81), (0, (((mem 79 i) * (mem 80 i)) + (mem 81 i)) - 1)]) rfl ?_
            refine jiald hF (by decide +kernel) (by exact hS.k81) (by omega) (by have := hS.l81; omega) ?_
            refine jidivN hF (by decide +kernel) (by omega) (by omega) ?_
            refine jiret hF hr (by decide +kernel) ?_
            exact lV (by unfold leftV; rw [← hi.1]; unfold leftW; (repeat' split) <;> first | rfl | omega)
          · refine jblk hF [(.iload 4, 2)] (by decide +kernel) (pc' := 100) (lo' := [(4, (0, (mem 79 i) * (mem 80 i))), (0, (2, 35)), (1, (0, x)), (2, (0, y)), (3, (0, i))]) (st' := [(0, (mem 79 i) * (mem 80 i))]) rfl ?_
            refine jif_ne hF (off := 7) 107 (by decide +kernel) (by decide) (by omega) (fun h_7 => ?_) (fun h_7 => ?_)
            · refine jblk hF [(.iconst (-1), 1)] (by decide +kernel) (pc' := 108) (lo' := [(4, (0, (mem 79 i) * (mem 80 i))), (0, (2, 35)), (1, (0, x)), (2, (0, y)), (3, (0, i))]) (st' := [(0, (-1))]) rfl ?_
              refine jiret hF hr (by decide +kernel) ?_
              exact lV (by unfold leftV; rw [← hi.1]; unfold leftW; (repeat' split) <;> first | rfl | omega)
            · refine jblk hF [(.iconst 0, 1)] (by decide +kernel) (pc' := 104) (lo' := [(4, (0, (mem 79 i) * (mem 80 i))), (0, (2, 35)), (1, (0, x)), (2, (0, y)), (3, (0, i))]) (st' := [(0, 0)]) rfl ?_
              refine jgoto hF (off := 4) 108 (by decide +kernel) (by decide) ?_
              refine jiret hF hr (by decide +kernel) ?_
              exact lV (by unfold leftV; rw [← hi.1]; unfold leftW; (repeat' split) <;> first | rfl | omega)
        · refine jblk hF [(.iconst (-1), 1)] (by decide +kernel) (pc' := 73) (lo' := [(0, (2, 35)), (1, (0, x)), (2, (0, y)), (3, (0, i)), (4, (0, k))]) (st' := [(0, (-1))]) rfl ?_
          refine jiret hF hr (by decide +kernel) ?_
          exact lV (by unfold leftV; rw [← hi.1]; unfold leftW; (repeat' split) <;> first | rfl | omega)
      · have hd := hDB.2.2 k (by omega) (by omega)
        refine jblk hF [(.aload_n 0, 1)] (by decide +kernel) (pc' := 15) (lo' := [(0, (2, 35)), (1, (0, x)), (2, (0, y)), (3, (0, i)), (4, (0, k))]) (st' := [(2, 35)]) rfl ?_
        refine jget hF 13 60 2 60 rfl (by decide) (by decide) rfl wd_1523 (by decide +kernel) (by exact hS.k35) ?_
        rw [SR.r60 hR]
        refine jblk hF [(.iload 4, 2)] (by decide +kernel) (pc' := 20) (lo' := [(0, (2, 35)), (1, (0, x)), (2, (0, y)), (3, (0, i)), (4, (0, k))]) (st' := [(0, k), (2, 77)]) rfl ?_
        refine jiald hF (by decide +kernel) (by exact hS.k77) (by omega) (by have := hS.l77; omega) ?_
        refine jblk hF [(.iload_n 1, 1)] (by decide +kernel) (pc' := 22) (lo' := [(0, (2, 35)), (1, (0, x)), (2, (0, y)), (3, (0, i)), (4, (0, k))]) (st' := [(0, x), (0, mem 77 k)]) rfl ?_
        refine jicmp_ne hF (off := 14) 36 (by decide +kernel) (by decide) (by omega) (by omega) (fun h_8 => ?_) (fun h_8 => ?_)
        · refine jblk hF [(.aload_n 0, 1)] (by decide +kernel) (pc' := 37) (lo' := [(0, (2, 35)), (1, (0, x)), (2, (0, y)), (3, (0, i)), (4, (0, k))]) (st' := [(2, 35)]) rfl ?_
          refine jget hF 13 60 2 60 rfl (by decide) (by decide) rfl wd_1523 (by decide +kernel) (by exact hS.k35) ?_
          rw [SR.r60 hR]
          refine jblk hF [(.iload 4, 2)] (by decide +kernel) (pc' := 42) (lo' := [(0, (2, 35)), (1, (0, x)), (2, (0, y)), (3, (0, i)), (4, (0, k))]) (st' := [(0, k), (2, 77)]) rfl ?_
          refine jiald hF (by decide +kernel) (by exact hS.k77) (by omega) (by have := hS.l77; omega) ?_
          refine jblk hF [(.iload_n 2, 1)] (by decide +kernel) (pc' := 44) (lo' := [(0, (2, 35)), (1, (0, x)), (2, (0, y)), (3, (0, i)), (4, (0, k))]) (st' := [(0, y), (0, mem 77 k)]) rfl ?_
          refine jicmp_ne hF (off := 17) 61 (by decide +kernel) (by decide) (by omega) (by omega) (fun h_9 => ?_) (fun h_9 => ?_)
          · refine jblk hF [(.iinc 4 1, 3)] (by decide +kernel) (pc' := 64) (lo' := [(4, (0, k + 1)), (0, (2, 35)), (1, (0, x)), (2, (0, y)), (3, (0, i))]) (st' := []) rfl ?_
            refine jgoto hF (off := (-59)) 5 (by decide +kernel) (by decide) ?_
            refine jsub [1, 2, 3, 4, 0] rfl ?_
            refine ih_1 i (k + 1) ?_ ?_ ?_
            · omega
            · exact ⟨by rw [lsN_s (by omega)]; first | (rw [if_pos (by omega)]; done) | (rw [if_neg (by omega)]; omega), by omega, by omega⟩
            · omega
          · refine jblk hF [(.aload_n 0, 1)] (by decide +kernel) (pc' := 48) (lo' := [(0, (2, 35)), (1, (0, x)), (2, (0, y)), (3, (0, i)), (4, (0, k))]) (st' := [(2, 35)]) rfl ?_
            refine jget hF 13 61 2 61 rfl (by decide) (by decide) rfl wd_1524 (by decide +kernel) (by exact hS.k35) ?_
            rw [SR.r61 hR]
            refine jblk hF [(.iload 4, 2)] (by decide +kernel) (pc' := 53) (lo' := [(0, (2, 35)), (1, (0, x)), (2, (0, y)), (3, (0, i)), (4, (0, k))]) (st' := [(0, k), (2, 78)]) rfl ?_
            refine jiald hF (by decide +kernel) (by exact hS.k78) (by omega) (by have := hS.l78; omega) ?_
            refine jblk hF [(.iload_n 1, 1)] (by decide +kernel) (pc' := 55) (lo' := [(0, (2, 35)), (1, (0, x)), (2, (0, y)), (3, (0, i)), (4, (0, k))]) (st' := [(0, x), (0, mem 78 k)]) rfl ?_
            refine jicmp_ne hF (off := 6) 61 (by decide +kernel) (by decide) (by omega) (by omega) (fun h_10 => ?_) (fun h_10 => ?_)
            · refine jblk hF [(.iinc 4 1, 3)] (by decide +kernel) (pc' := 64) (lo' := [(4, (0, k + 1)), (0, (2, 35)), (1, (0, x)), (2, (0, y)), (3, (0, i))]) (st' := []) rfl ?_
              refine jgoto hF (off := (-59)) 5 (by decide +kernel) (by decide) ?_
              refine jsub [1, 2, 3, 4, 0] rfl ?_
              refine ih_1 i (k + 1) ?_ ?_ ?_
              · omega
              · exact ⟨by rw [lsN_s (by omega)]; first | (rw [if_pos (by omega)]; done) | (rw [if_neg (by omega)]; omega), by omega, by omega⟩
              · omega
            · refine jblk hF [(.iload 4, 2), (.istore_n 3, 1), (.iinc 4 1, 3)] (by decide +kernel) (pc' := 64) (lo' := [(4, (0, k + 1)), (3, (0, k)), (0, (2, 35)), (1, (0, x)), (2, (0, y))]) (st' := []) rfl ?_
              refine jgoto hF (off := (-59)) 5 (by decide +kernel) (by decide) ?_
              refine jsub [2, 3, 4, 1, 0] rfl ?_
              refine ih_1 k (k + 1) ?_ ?_ ?_
              · omega
              · exact ⟨by rw [lsN_s (by omega)]; first | (rw [if_pos (by omega)]; done) | (rw [if_neg (by omega)]; omega), by omega, by omega⟩
              · omega
        · refine jblk hF [(.aload_n 0, 1)] (by decide +kernel) (pc' := 26) (lo' := [(0, (2, 35)), (1, (0, x)), (2, (0, y)), (3, (0, i)), (4, (0, k))]) (st' := [(2, 35)]) rfl ?_
          refine jget hF 13 61 2 61 rfl (by decide) (by decide) rfl wd_1524 (by decide +kernel) (by exact hS.k35) ?_
          rw [SR.r61 hR]
          refine jblk hF [(.iload 4, 2)] (by decide +kernel) (pc' := 31) (lo' := [(0, (2, 35)), (1, (0, x)), (2, (0, y)), (3, (0, i)), (4, (0, k))]) (st' := [(0, k), (2, 78)]) rfl ?_
          refine jiald hF (by decide +kernel) (by exact hS.k78) (by omega) (by have := hS.l78; omega) ?_
          refine jblk hF [(.iload_n 2, 1)] (by decide +kernel) (pc' := 33) (lo' := [(0, (2, 35)), (1, (0, x)), (2, (0, y)), (3, (0, i)), (4, (0, k))]) (st' := [(0, y), (0, mem 78 k)]) rfl ?_
          refine jicmp_eq hF (off := 25) 58 (by decide +kernel) (by decide) (by omega) (by omega) (fun h_11 => ?_) (fun h_11 => ?_)
          · refine jblk hF [(.iload 4, 2), (.istore_n 3, 1), (.iinc 4 1, 3)] (by decide +kernel) (pc' := 64) (lo' := [(4, (0, k + 1)), (3, (0, k)), (0, (2, 35)), (1, (0, x)), (2, (0, y))]) (st' := []) rfl ?_
            refine jgoto hF (off := (-59)) 5 (by decide +kernel) (by decide) ?_
            refine jsub [2, 3, 4, 1, 0] rfl ?_
            refine ih_1 k (k + 1) ?_ ?_ ?_
            · omega
            · exact ⟨by rw [lsN_s (by omega)]; first | (rw [if_pos (by omega)]; done) | (rw [if_neg (by omega)]; omega), by omega, by omega⟩
            · omega
          · refine jblk hF [(.aload_n 0, 1)] (by decide +kernel) (pc' := 37) (lo' := [(0, (2, 35)), (1, (0, x)), (2, (0, y)), (3, (0, i)), (4, (0, k))]) (st' := [(2, 35)]) rfl ?_
            refine jget hF 13 60 2 60 rfl (by decide) (by decide) rfl wd_1523 (by decide +kernel) (by exact hS.k35) ?_
            rw [SR.r60 hR]
            refine jblk hF [(.iload 4, 2)] (by decide +kernel) (pc' := 42) (lo' := [(0, (2, 35)), (1, (0, x)), (2, (0, y)), (3, (0, i)), (4, (0, k))]) (st' := [(0, k), (2, 77)]) rfl ?_
            refine jiald hF (by decide +kernel) (by exact hS.k77) (by omega) (by have := hS.l77; omega) ?_
            refine jblk hF [(.iload_n 2, 1)] (by decide +kernel) (pc' := 44) (lo' := [(0, (2, 35)), (1, (0, x)), (2, (0, y)), (3, (0, i)), (4, (0, k))]) (st' := [(0, y), (0, mem 77 k)]) rfl ?_
            refine jicmp_ne hF (off := 17) 61 (by decide +kernel) (by decide) (by omega) (by omega) (fun h_12 => ?_) (fun h_12 => ?_)
            · refine jblk hF [(.iinc 4 1, 3)] (by decide +kernel) (pc' := 64) (lo' := [(4, (0, k + 1)), (0, (2, 35)), (1, (0, x)), (2, (0, y)), (3, (0, i))]) (st' := []) rfl ?_
              refine jgoto hF (off := (-59)) 5 (by decide +kernel) (by decide) ?_
              refine jsub [1, 2, 3, 4, 0] rfl ?_
              refine ih_1 i (k + 1) ?_ ?_ ?_
              · omega
              · exact ⟨by rw [lsN_s (by omega)]; first | (rw [if_pos (by omega)]; done) | (rw [if_neg (by omega)]; omega), by omega, by omega⟩
              · omega
            · refine jblk hF [(.aload_n 0, 1)] (by decide +kernel) (pc' := 48) (lo' := [(0, (2, 35)), (1, (0, x)), (2, (0, y)), (3, (0, i)), (4, (0, k))]) (st' := [(2, 35)]) rfl ?_
              refine jget hF 13 61 2 61 rfl (by decide) (by decide) rfl wd_1524 (by decide +kernel) (by exact hS.k35) ?_
              rw [SR.r61 hR]
              refine jblk hF [(.iload 4, 2)] (by decide +kernel) (pc' := 53) (lo' := [(0, (2, 35)), (1, (0, x)), (2, (0, y)), (3, (0, i)), (4, (0, k))]) (st' := [(0, k), (2, 78)]) rfl ?_
              refine jiald hF (by decide +kernel) (by exact hS.k78) (by omega) (by have := hS.l78; omega) ?_
              refine jblk hF [(.iload_n 1, 1)] (by decide +kernel) (pc' := 55) (lo' := [(0, (2, 35)), (1, (0, x)), (2, (0, y)), (3, (0, i)), (4, (0, k))]) (st' := [(0, x), (0, mem 78 k)]) rfl ?_
              refine jicmp_ne hF (off := 6) 61 (by decide +kernel) (by decide) (by omega) (by omega) (fun h_13 => ?_) (fun h_13 => ?_)
              · refine jblk hF [(.iinc 4 1, 3)] (by decide +kernel) (pc' := 64) (lo' := [(4, (0, k + 1)), (0, (2, 35)), (1, (0, x)), (2, (0, y)), (3, (0, i))]) (st' := []) rfl ?_
                refine jgoto hF (off := (-59)) 5 (by decide +kernel) (by decide) ?_
                refine jsub [1, 2, 3, 4, 0] rfl ?_
                refine ih_1 i (k + 1) ?_ ?_ ?_
                · omega
                · exact ⟨by rw [lsN_s (by omega)]; first | (rw [if_pos (by omega)]; done) | (rw [if_neg (by omega)]; omega), by omega, by omega⟩
                · omega
              · refine jblk hF [(.iload 4, 2), (.istore_n 3, 1), (.iinc 4 1, 3)] (by decide +kernel) (pc' := 64) (lo' := [(4, (0, k + 1)), (3, (0, k)), (0, (2, 35)), (1, (0, x)), (2, (0, y))]) (st' := []) rfl ?_
                refine jgoto hF (off := (-59)) 5 (by decide +kernel) (by decide) ?_
                refine jsub [2, 3, 4, 1, 0] rfl ?_
                refine ih_1 k (k + 1) ?_ ?_ ?_
                · omega
                · exact ⟨by rw [lsN_s (by omega)]; first | (rw [if_pos (by omega)]; done) | (rw [if_neg (by omega)]; omega), by omega, by omega⟩
                · omega
  refine jsub [2, 3, 4, 1, 0] rfl ?_
  refine L_2 _ (-1) 0 ?_ ?_ (Nat.lt_succ_self _)
  · omega
  · exact ⟨rfl, by omega, by omega⟩
set_option maxHeartbeats 4000000 in
set_option maxRecDepth 100000 in
theorem c_X12_isPlate {l : Launch} {g : GP} (hG : GH g) {kd : Int → Nat} {ln : Int → Int} {mem : Int → Int → Int} {sz : Nat} (hS : SK kd ln) (hR : SR mem) (p : Int) (h_p : InI p) (hPg : 0 ≤ mem 35 33 ∧ mem 35 33 ≤ 12) (hIS : ∀ p : Int, 0 ≤ p → p < 12 → 0 ≤ mem 82 p ∧ mem 82 p ≤ 1) : MT l g yX12_isPlate cX12_isPlate 2 (some .boolean) 2 0 0 [(2, 35), (0, p)] kd ln mem sz (pB (isPg mem p ∧ mem 82 p = 1) kd ln mem sz) := by
  refine MT_of hG (by decide +kernel) (Nat.le_of_ble_eq_true rfl) (fun z hF hr hn => ?_)
  refine jblk hF [(.aload_n 0, 1), (.iload_n 1, 1)] (by decide +kernel) (pc' := 2) (lo' := [(0, (2, 35)), (1, (0, p))]) (st' := [(0, p), (2, 35)]) rfl ?_
  refine jcallV hF (c_X12_isPage hG hS hR p (by omega) (by omega)) MW_X12_isPage 13 (by decide) (by exact hS.k35) wd_1930 wd_1932 wd_p71 (by decide +kernel) [] rfl rfl (by decide) (Nat.le_of_ble_eq_true rfl) (by decide) (kB (fun h_1 => ?_) (fun h_1 => ?_))
  · refine jif_eq hF (off := 16) 21 (by decide +kernel) (by decide) (by decide) (fun h => absurd h (by decide)) (fun _ => ?_)
    have hi9 := hIS p (by omega) (by omega)
    refine jblk hF [(.aload_n 0, 1)] (by decide +kernel) (pc' := 9) (lo' := [(0, (2, 35)), (1, (0, p))]) (st' := [(2, 35)]) rfl ?_
    refine jget hF 13 66 2 66 rfl (by decide) (by decide) rfl wd_1529 (by decide +kernel) (by exact hS.k35) ?_
    rw [SR.r66 hR]
    refine jblk hF [(.iload_n 1, 1)] (by decide +kernel) (pc' := 13) (lo' := [(0, (2, 35)), (1, (0, p))]) (st' := [(0, p), (2, 82)]) rfl ?_
    refine jzald hF (by decide +kernel) (by exact hS.k82) (by omega) (by have := hS.l82; omega) ?_
    refine jif_eq hF (off := 7) 21 (by decide +kernel) (by decide) (by omega) (fun h_3 => ?_) (fun h_3 => ?_)
    · refine jblk hF [(.iconst 0, 1)] (by decide +kernel) (pc' := 22) (lo' := [(0, (2, 35)), (1, (0, p))]) (st' := [(0, 0)]) rfl ?_
      refine jzret hF hr (by omega) (by decide +kernel) ?_
      exact lB0 (by omega)
    · refine jblk hF [(.iconst 1, 1)] (by decide +kernel) (pc' := 18) (lo' := [(0, (2, 35)), (1, (0, p))]) (st' := [(0, 1)]) rfl ?_
      refine jgoto hF (off := 4) 22 (by decide +kernel) (by decide) ?_
      refine jzret hF hr (by omega) (by decide +kernel) ?_
      exact lB1 (by omega)
  · refine jif_eq hF (off := 16) 21 (by decide +kernel) (by decide) (by decide) (fun _ => ?_) (fun h => absurd h (by decide))
    refine jblk hF [(.iconst 0, 1)] (by decide +kernel) (pc' := 22) (lo' := [(0, (2, 35)), (1, (0, p))]) (st' := [(0, 0)]) rfl ?_
    refine jzret hF hr (by omega) (by decide +kernel) ?_
    exact lB0 (by omega)
end
