section
/-! plates and presses -/
abbrev PRS (mem : Int → Int → Int) : Prop := 0 ≤ mem 35 72 ∧ mem 35 72 ≤ 80 ∧ ∀ i : Int, 0 ≤ i → i ≤ mem 35 72 - 1 → 0 ≤ mem 84 i ∧ mem 84 i ≤ 11 ∧ 0 ≤ mem 85 i ∧ mem 85 i ≤ 39 ∧ 0 ≤ mem 86 i ∧ mem 86 i ≤ 12 ∧ 0 ≤ mem 87 i ∧ mem 87 i ≤ 9
abbrev IST (mem : Int → Int → Int) : Prop := ∀ p : Int, 0 ≤ p → p < 12 → 0 ≤ mem 82 p ∧ mem 82 p ≤ 1
abbrev PLB (mem : Int → Int → Int) : Prop := ∀ i : Int, 0 ≤ i → i < 480 → -9000000000000000000 ≤ mem 83 i ∧ mem 83 i ≤ 9000000000000000000
abbrev isPlt (mem : Int → Int → Int) (p : Int) : Prop := isPg mem p ∧ mem 82 p = 1
def prN (mem : Int → Int → Int) (p n : Int) : Nat → Int
  | 0 => absV (mem 83 (40 * p + n))
  | i + 1 => if mem 84 i = p ∧ mem 85 i = n then prN mem p n i + (mem 87 i - prN mem p n i / 10 ^ (mem 86 i).toNat % 10) * 10 ^ (mem 86 i).toNat else prN mem p n i
theorem prN_s {mem : Int → Int → Int} {p n i : Int} (q : 0 ≤ i) : prN mem p n (i + 1).toNat = (if mem 84 i = p ∧ mem 85 i = n then prN mem p n i.toNat + (mem 87 i - prN mem p n i.toNat / 10 ^ (mem 86 i).toNat % 10) * 10 ^ (mem 86 i).toNat else prN mem p n i.toNat) := by
  rw [show (i + 1).toNat = i.toNat + 1 by omega, prN, show ((i.toNat : Nat) : Int) = i by omega]
theorem ten12 {p : Int} (h : 0 ≤ p ∧ p ≤ 12) : 1 ≤ (10 : Int) ^ p.toNat ∧ (10 : Int) ^ p.toNat ≤ 1000000000000 := by
  rcases (show p = 0 ∨ p = 1 ∨ p = 2 ∨ p = 3 ∨ p = 4 ∨ p = 5 ∨ p = 6 ∨ p = 7 ∨ p = 8 ∨ p = 9 ∨ p = 10 ∨ p = 11 ∨ p = 12 by omega) with rfl | rfl | rfl | rfl | rfl | rfl | rfl | rfl | rfl | rfl | rfl | rfl | rfl <;> decide
theorem press_bd {v t f : Int} (hv : 0 ≤ v) (ht : 1 ≤ t ∧ t ≤ 1000000000000) (hf : 0 ≤ f ∧ f ≤ 9) : 0 ≤ v + (f - v / t % 10) * t ∧ v + (f - v / t % 10) * t ≤ v + 9000000000000 := by
  have h1 := Int.ediv_nonneg hv (show 0 ≤ t by omega)
  have h2 := Int.emod_nonneg (v / t) (show (10 : Int) ≠ 0 by decide)
  have h3 := Int.emod_lt_of_pos (v / t) (show (0 : Int) < 10 by decide)
  have h4 := mod_le h1 (show (0 : Int) < 10 by decide)
  have h5 := Int.mul_ediv_self_le (x := v) (k := t) (by omega)
  have h6 := Int.mul_le_mul_of_nonneg_right h4 (show 0 ≤ t by omega)
  have h7 := Int.mul_comm t (v / t)
  have h8 := mul_bd (a := f) (b := t) hf (show 0 ≤ t ∧ t ≤ 1000000000000 by omega)
  have h9 := Int.mul_nonneg h2 (show 0 ≤ t by omega)
  rw [Int.sub_mul]
  omega
theorem prN_bd {mem : Int → Int → Int} {p n : Int} (hR : PRS mem) (hb : -9000000000000000000 ≤ mem 83 (40 * p + n) ∧ mem 83 (40 * p + n) ≤ 9000000000000000000) : ∀ k : Nat, (k : Int) ≤ mem 35 72 → 0 ≤ prN mem p n k ∧ prN mem p n k ≤ 9000000000000000000 + k * 9000000000000 := by
  intro k
  induction k with
  | zero =>
    intro _
    have := absV_bd (mem 83 (40 * p + n))
    show 0 ≤ absV _ ∧ absV _ ≤ _
    omega
  | succ k ih =>
    intro hk
    have h1 := ih (by omega)
    have h2 := hR.2.2 k (by omega) (by omega)
    unfold prN
    split
    · have h3 := press_bd (v := prN mem p n k) (t := 10 ^ (mem 86 k).toNat) (f := mem 87 k) h1.1 (ten12 (by omega)) (by omega)
      omega
    · omega
def prtV (mem : Int → Int → Int) (p n : Int) : Int := if mem 83 (40 * p + n) < 0 then -(prN mem p n (mem 35 72).toNat) else prN mem p n (mem 35 72).toNat
theorem prtV_bd {mem : Int → Int → Int} {p n : Int} (hR : PRS mem) (hb : -9000000000000000000 ≤ mem 83 (40 * p + n) ∧ mem 83 (40 * p + n) ≤ 9000000000000000000) : InL (prtV mem p n) := by
  have := prN_bd hR hb (mem 35 72).toNat (by omega)
  unfold prtV
  split <;> omega
/-- the presses but those of page p, moved together -/
def cmM (p : Int) : Nat → (Int → Int → Int) → Int × (Int → Int → Int)
  | 0, m => (0, m)
  | i + 1, m => if (cmM p i m).2 84 i = p then cmM p i m else ((cmM p i m).1 + 1, set2 (set2 (set2 (set2 (cmM p i m).2 84 (cmM p i m).1 ((cmM p i m).2 84 i)) 85 (cmM p i m).1 ((cmM p i m).2 85 i)) 86 (cmM p i m).1 ((cmM p i m).2 86 i)) 87 (cmM p i m).1 ((cmM p i m).2 87 i))
theorem cmM_s {p i : Int} {m : Int → Int → Int} (q : 0 ≤ i) : cmM p (i + 1).toNat m = (if (cmM p i.toNat m).2 84 i = p then cmM p i.toNat m else ((cmM p i.toNat m).1 + 1, set2 (set2 (set2 (set2 (cmM p i.toNat m).2 84 (cmM p i.toNat m).1 ((cmM p i.toNat m).2 84 i)) 85 (cmM p i.toNat m).1 ((cmM p i.toNat m).2 85 i)) 86 (cmM p i.toNat m).1 ((cmM p i.toNat m).2 86 i)) 87 (cmM p i.toNat m).1 ((cmM p i.toNat m).2 87 i))) := by
  rw [show (i + 1).toNat = i.toNat + 1 by omega, cmM, show ((i.toNat : Nat) : Int) = i by omega]
theorem cmM_fr (p : Int) (m : Int → Int → Int) : ∀ k : Nat, 0 ≤ (cmM p k m).1 ∧ (cmM p k m).1 ≤ k ∧ (∀ a j : Int, (a < 84 ∨ 87 < a ∨ (cmM p k m).1 ≤ j) → (cmM p k m).2 a j = m a j) := by
  intro k
  induction k with
  | zero => exact ⟨Int.le_refl _, Int.le_refl _, fun _ _ _ => rfl⟩
  | succ k ih =>
    unfold cmM
    by_cases c : (cmM p k m).2 84 k = p
    · rw [if_pos c]
      exact ⟨ih.1, by omega, ih.2.2⟩
    · rw [if_neg c]
      refine ⟨by show 0 ≤ (cmM p k m).1 + 1; omega, by show (cmM p k m).1 + 1 ≤ _; omega, fun a j h => ?_⟩
      have h' : a < 84 ∨ 87 < a ∨ (cmM p k m).1 + 1 ≤ j := h
      have e : ∀ (mm : Int → Int → Int) (b v : Int), 84 ≤ b → b ≤ 87 → set2 mm b (cmM p k m).1 v a j = mm a j := fun mm b v h1 h2 => if_neg (by omega)
      show set2 (set2 (set2 (set2 (cmM p k m).2 84 _ _) 85 _ _) 86 _ _) 87 _ _ a j = _
      rw [e _ _ _ (by decide) (by decide), e _ _ _ (by decide) (by decide), e _ _ _ (by decide) (by decide), e _ _ _ (by decide) (by decide)]
      exact ih.2.2 a j (by omega)
/-- where the press of this place stands, or the next free place -/
def psN (mem : Int → Int → Int) (p n j : Int) : Nat → Int
  | 0 => mem 35 72
  | i + 1 => if mem 84 i = p ∧ mem 85 i = n ∧ mem 86 i = j then i else psN mem p n j i
theorem psN_s {mem : Int → Int → Int} {p n j i : Int} (q : 0 ≤ i) : psN mem p n j (i + 1).toNat = (if mem 84 i = p ∧ mem 85 i = n ∧ mem 86 i = j then i else psN mem p n j i.toNat) := by
  rw [show (i + 1).toNat = i.toNat + 1 by omega, psN, show ((i.toNat : Nat) : Int) = i by omega]
abbrev preC (mem : Int → Int → Int) (p n j f : Int) : Prop := isPlt mem p ∧ isLn mem p n ∧ (0 ≤ j ∧ j ≤ 12) ∧ (0 ≤ f ∧ f ≤ 9) ∧ psN mem p n j (mem 35 72).toNat ≠ 80
def preM (mem : Int → Int → Int) (p n j f : Int) : Int → Int → Int := set2 (set2 (set2 (set2 (set2 mem 84 (psN mem p n j (mem 35 72).toNat) p) 85 (psN mem p n j (mem 35 72).toNat) n) 86 (psN mem p n j (mem 35 72).toNat) j) 87 (psN mem p n j (mem 35 72).toNat) f) 35 72 (mem 35 72 + (if psN mem p n j (mem 35 72).toNat = mem 35 72 then 1 else 0))
theorem EQ36.fprN {mem mm : Int → Int → Int} (h : EQ36 mem mm) (p n : Int) : ∀ k : Nat, prN mm p n k = prN mem p n k := by
  intro k
  induction k with
  | zero => show absV (mm 83 _) = absV (mem 83 _); rw [h.at 83 (by decide)]
  | succ k ih => unfold prN; rw [ih, h.at 84 (by decide), h.at 85 (by decide), h.at 86 (by decide), h.at 87 (by decide)]
theorem EQ36.fprtV {mem mm : Int → Int → Int} (h : EQ36 mem mm) (h72 : mm 35 72 = mem 35 72) (p n : Int) : prtV mm p n = prtV mem p n := by
  unfold prtV
  rw [h.fprN, h72, h.at 83 (by decide)]
theorem EQ36.fPRS {mem mm : Int → Int → Int} (h : EQ36 mem mm) (h72 : mm 35 72 = mem 35 72) (hp : PRS mem) : PRS mm := by
  unfold PRS
  rw [h72, h.at 84 (by decide), h.at 85 (by decide), h.at 86 (by decide), h.at 87 (by decide)]
  exact hp
theorem EQ36.fPLB {mem mm : Int → Int → Int} (h : EQ36 mem mm) (hp : PLB mem) : PLB mm := fun i h1 h2 => by rw [h.at 83 (by decide)]; exact hp i h1 h2
set_option maxHeartbeats 4000000 in
set_option maxRecDepth 100000 in
theorem c_X12_printedAt {l : Launch} {g : GP} (hG : GH g) {kd : Int → Nat} {ln : Int → Int} {mem : Int → Int → Int} {sz : Nat} (hS : SK kd ln) (hR : SR mem) (p n : Int) (hn1 : 0 ≤ p ∧ p < 12 ∧ 0 ≤ n ∧ n < 40) (hPR : PRS mem) (hPL : PLB mem) : MT l g yX12_printedAt cX12_printedAt 10 (some .long) 1 0 0 [(2, 35), (0, p), (0, n)] kd ln mem sz (pV (1, prtV mem p n) kd ln mem sz) := by
  refine MT_of hG (by decide +kernel) (Nat.le_of_ble_eq_true rfl) (fun z hF hr hn => ?_)
  have hpl := hPL (40 * p + n) (by omega) (by omega)
  refine jblk hF [(.aload_n 0, 1)] (by decide +kernel) (pc' := 1) (lo' := [(0, (2, 35)), (1, (0, p)), (2, (0, n))]) (st' := [(2, 35)]) rfl ?_
  refine jget hF 13 67 2 67 rfl (by decide) (by decide) rfl wd_1530 (by decide +kernel) (by exact hS.k35) ?_
  rw [SR.r67 hR]
  refine jblk hF [(.bipush 40, 2), (.iload_n 1, 1), (.imul, 1), (.iload_n 2, 1), (.iadd, 1)] (by decide +kernel) (pc' := 10) (lo' := [(0, (2, 35)), (1, (0, p)), (2, (0, n))]) (st' := [(0, (40 * p) + n), (2, 83)]) rfl ?_
  refine jlald hF (by decide +kernel) (by exact hS.k83) (by omega) (by have := hS.l83; omega) ?_
  refine jblk hF [(.lstore_n 3, 1), (.lload_n 3, 1)] (by decide +kernel) (pc' := 13) (lo' := [(3, (1, mem 83 ((40 * p) + n))), (0, (2, 35)), (1, (0, p)), (2, (0, n))]) (st' := [(1, mem 83 ((40 * p) + n))]) rfl ?_
  refine jcallS hF (c_J9_abs_067f4 hG (mem 83 ((40 * p) + n)) (by omega)) MW_J9_abs_067f4 wd_2067 wd_979 (by decide +kernel) [] rfl rfl (by decide) (Nat.le_of_ble_eq_true rfl) (by decide) (kV ?_)
  refine jblk hF [(.lstore 5, 2), (.iconst 0, 1), (.istore 7, 2)] (by decide +kernel) (pc' := 21) (lo' := [(7, (0, 0)), (5, (1, if (mem 83 ((40 * p) + n)) < 0 then -(mem 83 ((40 * p) + n)) else (mem 83 ((40 * p) + n)))), (3, (1, mem 83 ((40 * p) + n))), (0, (2, 35)), (1, (0, p)), (2, (0, n))]) (st' := []) rfl ?_
  have L_2 : ∀ (fu_3 : Nat) (a : Int) (i : Int), (0 ≤ i ∧ i ≤ mem 35 72) → (a = prN mem p n i.toNat) →  (mem 35 72 - i).toNat < fu_3 → J z g 10 0 0 (QM z g 0 0 (pV (1, prtV mem p n) kd ln mem sz)) 21 [(0, (2, 35)), (1, (0, p)), (2, (0, n)), (3, (1, mem 83 ((40 * p) + n))), (5, (1, a)), (7, (0, i))] [] kd ln mem sz := by
    intro fu_3
    induction fu_3 with
    | zero => intro a i _ _ hm; omega
    | succ fu_3 ih_1 =>
      intro a i hi ha hm
      have hb := prN_bd (p := p) (n := n) hPR hpl i.toNat (by omega)
      have hb2 : (i.toNat : Int) * 9000000000000 ≤ 720000000000000 := by omega
      refine jblk hF [(.iload 7, 2), (.aload_n 0, 1)] (by decide +kernel) (pc' := 24) (lo' := [(0, (2, 35)), (1, (0, p)), (2, (0, n)), (3, (1, mem 83 ((40 * p) + n))), (5, (1, a)), (7, (0, i))]) (st' := [(2, 35), (0, i)]) rfl ?_
      refine jget hF 13 72 0 72 rfl (by decide) (by decide) rfl wd_1535 (by decide +kernel) (by exact hS.k35) ?_
      refine jicmp_ge hF (off := 69) 96 (by decide +kernel) (by decide) (by omega) (by omega) (fun h_4 => ?_) (fun h_4 => ?_)
      · have hie : i = mem 35 72 := by omega
        rw [hie] at ha
        refine jblk hF [(.lload_n 3, 1)] (by decide +kernel) (pc' := 97) (lo' := [(0, (2, 35)), (1, (0, p)), (2, (0, n)), (3, (1, mem 83 ((40 * p) + n))), (5, (1, a)), (7, (0, i))]) (st' := [(1, mem 83 ((40 * p) + n))]) rfl ?_
        refine jlconst hF (n := 0) 0 rfl (by decide +kernel) ?_
        refine jlcmp_ge hF (off := 9) 108 (by decide +kernel) (by decide +kernel) (by decide) (by omega) (by decide) (fun h_5 => ?_) (fun h_5 => ?_)
        · refine jblk hF [(.lload 5, 2)] (by decide +kernel) (pc' := 110) (lo' := [(0, (2, 35)), (1, (0, p)), (2, (0, n)), (3, (1, mem 83 ((40 * p) + n))), (5, (1, a)), (7, (0, i))]) (st' := [(1, a)]) rfl ?_
          refine jlret hF hr (by decide +kernel) ?_
          exact lV (by unfold prtV; rw [← ha]; first | exact (if_pos (by omega)).symm | exact (if_neg (by omega)).symm)
        · refine jblk hF [(.lload 5, 2), (.lneg, 1)] (by decide +kernel) (pc' := 105) (lo' := [(0, (2, 35)), (1, (0, p)), (2, (0, n)), (3, (1, mem 83 ((40 * p) + n))), (5, (1, a)), (7, (0, i))]) (st' := [(1, -a)]) rfl ?_
          refine jgoto hF (off := 5) 110 (by decide +kernel) (by decide) ?_
          refine jlret hF hr (by decide +kernel) ?_
          exact lV (by unfold prtV; rw [← ha]; first | exact (if_pos (by omega)).symm | exact (if_neg (by omega)).symm)
      · have hr9 := hPR.2.2 i (by omega) (by omega)
        refine jblk hF [(.aload_n 0, 1)] (by decide +kernel) (pc' := 31) (lo' := [(0, (2, 35)), (1, (0, p)), (2, (0, n)), (3, (1, mem 83 ((40 * p) + n))), (5, (1, a)), (7, (0, i))]) (st' := [(2, 35)]) rfl ?_
        refine jget hF 13 68 2 68 rfl (by decide) (by decide) rfl wd_1531 (by decide +kernel) (by exact hS.k35) ?_
        rw [SR.r68 hR]
        refine jblk hF [(.iload 7, 2)] (by decide +kernel) (pc' := 36) (lo' := [(0, (2, 35)), (1, (0, p)), (2, (0, n)), (3, (1, mem 83 ((40 * p) + n))), (5, (1, a)), (7, (0, i))]) (st' := [(0, i), (2, 84)]) rfl ?_
        refine jiald hF (by decide +kernel) (by exact hS.k84) (by omega) (by have := hS.l84; omega) ?_
        refine jblk hF [(.iload_n 1, 1)] (by decide +kernel) (pc' := 38) (lo' := [(0, (2, 35)), (1, (0, p)), (2, (0, n)), (3, (1, mem 83 ((40 * p) + n))), (5, (1, a)), (7, (0, i))]) (st' := [(0, p), (0, mem 84 i)]) rfl ?_
        refine jicmp_ne hF (off := 52) 90 (by decide +kernel) (by decide) (by omega) (by omega) (fun h_6 => ?_) (fun h_6 => ?_)
        · refine jblk hF [(.iinc 7 1, 3)] (by decide +kernel) (pc' := 93) (lo' := [(7, (0, i + 1)), (0, (2, 35)), (1, (0, p)), (2, (0, n)), (3, (1, mem 83 ((40 * p) + n))), (5, (1, a))]) (st' := []) rfl ?_
          refine jgoto hF (off := (-72)) 21 (by decide +kernel) (by decide) ?_
          refine jsub [1, 2, 3, 4, 5, 0] rfl ?_
          refine ih_1 a (i + 1) ?_ ?_ ?_
          · omega
          · rw [prN_s (by omega)]; first | (rw [if_pos (by omega), ha]; done) | (rw [if_neg (by omega), ha]; done)
          · omega
        · refine jblk hF [(.aload_n 0, 1)] (by decide +kernel) (pc' := 42) (lo' := [(0, (2, 35)), (1, (0, p)), (2, (0, n)), (3, (1, mem 83 ((40 * p) + n))), (5, (1, a)), (7, (0, i))]) (st' := [(2, 35)]) rfl ?_
          refine jget hF 13 69 2 69 rfl (by decide) (by decide) rfl wd_1532 (by decide +kernel) (by exact hS.k35) ?_
          rw [SR.r69 hR]
          refine jblk hF [(.iload 7, 2)] (by decide +kernel) (pc' := 47) (lo' := [(0, (2, 35)), (1, (0, p)), (2, (0, n)), (3, (1, mem 83 ((40 * p) + n))), (5, (1, a)), (7, (0, i))]) (st' := [(0, i), (2, 85)]) rfl ?_
          refine jiald hF (by decide +kernel) (by exact hS.k85) (by omega) (by have := hS.l85; omega) ?_
          refine jblk hF [(.iload_n 2, 1)] (by decide +kernel) (pc' := 49) (lo' := [(0, (2, 35)), (1, (0, p)), (2, (0, n)), (3, (1, mem 83 ((40 * p) + n))), (5, (1, a)), (7, (0, i))]) (st' := [(0, n), (0, mem 85 i)]) rfl ?_
          refine jicmp_ne hF (off := 41) 90 (by decide +kernel) (by decide) (by omega) (by omega) (fun h_7 => ?_) (fun h_7 => ?_)
          · refine jblk hF [(.iinc 7 1, 3)] (by decide +kernel) (pc' := 93) (lo' := [(7, (0, i + 1)), (0, (2, 35)), (1, (0, p)), (2, (0, n)), (3, (1, mem 83 ((40 * p) + n))), (5, (1, a))]) (st' := []) rfl ?_
            refine jgoto hF (off := (-72)) 21 (by decide +kernel) (by decide) ?_
            refine jsub [1, 2, 3, 4, 5, 0] rfl ?_
            refine ih_1 a (i + 1) ?_ ?_ ?_
            · omega
            · rw [prN_s (by omega)]; first | (rw [if_pos (by omega), ha]; done) | (rw [if_neg (by omega), ha]; done)
            · omega
          · refine jblk hF [(.aload_n 0, 1)] (by decide +kernel) (pc' := 53) (lo' := [(0, (2, 35)), (1, (0, p)), (2, (0, n)), (3, (1, mem 83 ((40 * p) + n))), (5, (1, a)), (7, (0, i))]) (st' := [(2, 35)]) rfl ?_
            refine jget hF 13 70 2 70 rfl (by decide) (by decide) rfl wd_1533 (by decide +kernel) (by exact hS.k35) ?_
            rw [SR.r70 hR]
            refine jblk hF [(.iload 7, 2)] (by decide +kernel) (pc' := 58) (lo' := [(0, (2, 35)), (1, (0, p)), (2, (0, n)), (3, (1, mem 83 ((40 * p) + n))), (5, (1, a)), (7, (0, i))]) (st' := [(0, i), (2, 86)]) rfl ?_
            refine jiald hF (by decide +kernel) (by exact hS.k86) (by omega) (by have := hS.l86; omega) ?_
            refine jcallS hF (c_X12_ten hG (mem 86 i) (by omega)) MW_X12_ten wd_1774 wd_1775 (by decide +kernel) [] rfl rfl (by decide) (Nat.le_of_ble_eq_true rfl) (by decide) (kV ?_)
            refine jblk hF [(.lstore 8, 2)] (by decide +kernel) (pc' := 64) (lo' := [(8, (1, 10 ^ (mem 86 i).toNat)), (0, (2, 35)), (1, (0, p)), (2, (0, n)), (3, (1, mem 83 ((40 * p) + n))), (5, (1, a)), (7, (0, i))]) (st' := []) rfl ?_
            have ht := ten12 (p := mem 86 i) (by omega)
            have hdv := ediv_bd a (10 ^ (mem 86 i).toNat) (by omega)
            refine jblk hF [(.lload 5, 2), (.aload_n 0, 1)] (by decide +kernel) (pc' := 67) (lo' := [(8, (1, 10 ^ (mem 86 i).toNat)), (0, (2, 35)), (1, (0, p)), (2, (0, n)), (3, (1, mem 83 ((40 * p) + n))), (5, (1, a)), (7, (0, i))]) (st' := [(2, 35), (1, a)]) rfl ?_
            refine jget hF 13 71 2 71 rfl (by decide) (by decide) rfl wd_1534 (by decide +kernel) (by exact hS.k35) ?_
            rw [SR.r71 hR]
            refine jblk hF [(.iload 7, 2)] (by decide +kernel) (pc' := 72) (lo' := [(8, (1, 10 ^ (mem 86 i).toNat)), (0, (2, 35)), (1, (0, p)), (2, (0, n)), (3, (1, mem 83 ((40 * p) + n))), (5, (1, a)), (7, (0, i))]) (st' := [(0, i), (2, 87), (1, a)]) rfl ?_
            refine jiald hF (by decide +kernel) (by exact hS.k87) (by omega) (by have := hS.l87; omega) ?_
            refine ji2l hF (by decide +kernel) (by omega) ?_
            refine jblk hF [(.lload 5, 2), (.lload 8, 2)] (by decide +kernel) (pc' := 78) (lo' := [(8, (1, 10 ^ (mem 86 i).toNat)), (0, (2, 35)), (1, (0, p)), (2, (0, n)), (3, (1, mem 83 ((40 * p) + n))), (5, (1, a)), (7, (0, i))]) (st' := [(1, 10 ^ (mem 86 i).toNat), (1, a), (1, mem 87 i), (1, a)]) rfl ?_
            refine jldivN hF (by decide +kernel) (by omega) (by omega) ?_
            refine jldc2 hF 10 (cst_l wd_1777 (by decide)) (by decide +kernel) ?_
            refine jlremN hF (by decide +kernel) (by omega) (by omega) ?_
            refine jblk hF [(.lsub, 1), (.lload 8, 2), (.lmul, 1), (.ladd, 1), (.lstore 5, 2), (.iinc 7 1, 3)] (by decide +kernel) (pc' := 93) (lo' := [(7, (0, i + 1)), (5, (1, a + (((mem 87 i) - ((a / (10 ^ (mem 86 i).toNat)) % 10)) * (10 ^ (mem 86 i).toNat)))), (8, (1, 10 ^ (mem 86 i).toNat)), (0, (2, 35)), (1, (0, p)), (2, (0, n)), (3, (1, mem 83 ((40 * p) + n)))]) (st' := []) rfl ?_
            refine jgoto hF (off := (-72)) 21 (by decide +kernel) (by decide) ?_
            refine jsub [3, 4, 5, 6, 1, 0] rfl ?_
            refine ih_1 (a + (((mem 87 i) - ((a / (10 ^ (mem 86 i).toNat)) % 10)) * (10 ^ (mem 86 i).toNat))) (i + 1) ?_ ?_ ?_
            · omega
            · rw [prN_s (by omega)]; first | (rw [if_pos (by omega), ha]; done) | (rw [if_neg (by omega), ha]; done)
            · omega
  refine jsub [3, 4, 5, 2, 1, 0] rfl ?_
  refine L_2 _ (if (mem 83 ((40 * p) + n)) < 0 then -(mem 83 ((40 * p) + n)) else (mem 83 ((40 * p) + n))) 0 ?_ ?_ (Nat.lt_succ_self _)
  · omega
  · rfl
set_option maxHeartbeats 4000000 in
set_option maxRecDepth 100000 in
theorem c_X12_printed {l : Launch} {g : GP} (hG : GH g) {kd : Int → Nat} {ln : Int → Int} {mem : Int → Int → Int} {sz : Nat} (hS : SK kd ln) (hR : SR mem) (p n : Int) (h_p : InI p) (h_n : InI n) (hPS : PGS mem) (hIS : IST mem) (hPR : PRS mem) (hPL : PLB mem) : MT l g yX12_printed cX12_printed 3 (some .long) 3 0 0 [(2, 35), (0, p), (0, n)] kd ln mem sz (pMR 1 (fun v mem' => SR mem' ∧ (((isPlt mem p ∧ isLn mem p n) → v = prtV mem p n ∧ mem' = thr mem 0) ∧ (¬ (isPlt mem p ∧ isLn mem p n) → v = 0 ∧ mem' = thr mem 1))) kd ln sz) := by
  refine MT_of hG (by decide +kernel) (Nat.le_of_ble_eq_true rfl) (fun z hF hr hn => ?_)
  refine jblk hF [(.aload_n 0, 1), (.aload_n 0, 1), (.iload_n 1, 1)] (by decide +kernel) (pc' := 3) (lo' := [(0, (2, 35)), (1, (0, p)), (2, (0, n))]) (st' := [(0, p), (2, 35), (2, 35)]) rfl ?_
  refine jcallV hF (c_X12_isPlate hG hS hR p (by omega) (by omega) (by first | exact hIS)) MW_X12_isPlate 13 (by decide) (by exact hS.k35) wd_2162 wd_2164 wd_p98 (by decide +kernel) [(2, 35)] rfl rfl (by decide) (Nat.le_of_ble_eq_true rfl) (by decide) (kB (fun h_1 => ?_) (fun h_1 => ?_))
  · refine jif_eq hF (off := 16) 22 (by decide +kernel) (by decide) (by decide) (fun h => absurd h (by decide)) (fun _ => ?_)
    have hp := hPS.2.2 p (by omega) (by omega)
    refine jblk hF [(.aload_n 0, 1), (.iload_n 1, 1), (.iload_n 2, 1)] (by decide +kernel) (pc' := 12) (lo' := [(0, (2, 35)), (1, (0, p)), (2, (0, n))]) (st' := [(0, n), (0, p), (2, 35), (2, 35)]) rfl ?_
    refine jcallV hF (c_X12_isLine hG hS hR p n (by omega) (by omega) (by exact hPS)) MW_X12_isLine 13 (by decide) (by exact hS.k35) wd_1954 wd_1956 wd_p76 (by decide +kernel) [(2, 35)] rfl rfl (by decide) (Nat.le_of_ble_eq_true rfl) (by decide) (kB (fun h_3 => ?_) (fun h_3 => ?_))
    · refine jif_eq hF (off := 7) 22 (by decide +kernel) (by decide) (by decide) (fun h => absurd h (by decide)) (fun _ => ?_)
      refine jblk hF [(.iconst 0, 1)] (by decide +kernel) (pc' := 19) (lo' := [(0, (2, 35)), (1, (0, p)), (2, (0, n))]) (st' := [(0, 0), (2, 35)]) rfl ?_
      refine jgoto hF (off := 4) 23 (by decide +kernel) (by decide) ?_
      refine jput hF 13 1 0 1 rfl (by decide) (by decide) rfl wd_1464 (by decide +kernel) rfl (Or.inl rfl) (by exact hS.k35) (fun h => by cases h) ?_
      refine jblk hF [(.aload_n 0, 1)] (by decide +kernel) (pc' := 27) (lo' := [(0, (2, 35)), (1, (0, p)), (2, (0, n))]) (st' := [(2, 35)]) rfl ?_
      refine jget hF 13 1 0 1 rfl (by decide) (by decide) rfl wd_1464 (by decide +kernel) (by exact hS.k35) ?_
      rw [show (set2 mem 35 1 0) 35 1 = 0 from s2_s]
      refine jblk hF [(.iconst 1, 1)] (by decide +kernel) (pc' := 31) (lo' := [(0, (2, 35)), (1, (0, p)), (2, (0, n))]) (st' := [(0, 1), (0, 0)]) rfl ?_
      refine jicmp_ne hF (off := 7) 38 (by decide +kernel) (by decide) (by decide) (by decide) (fun _ => ?_) (fun h => absurd h (by decide))
      refine jblk hF [(.aload_n 0, 1), (.iload_n 1, 1), (.iload_n 2, 1)] (by decide +kernel) (pc' := 41) (lo' := [(0, (2, 35)), (1, (0, p)), (2, (0, n))]) (st' := [(0, n), (0, p), (2, 35)]) rfl ?_
      refine jcallV hF (c_X12_printedAt hG hS (SR.s hR (Or.inr (by decide))) p n (by omega) (by first | exact hPR | exact (EQ36.f _ _).fPRS (s2_k (by decide)) hPR) (by first | exact hPL | exact (EQ36.f _ _).fPLB hPL)) MW_X12_printedAt 13 (by decide) (by exact hS.k35) wd_2170 wd_2172 wd_p99 (by decide +kernel) [] rfl rfl (by decide) (Nat.le_of_ble_eq_true rfl) (by decide) (kV ?_)
      have hf_6 := prtV_bd (p := p) (n := n) hPR (hPL (40 * (p) + (n)) (by omega) (by omega))
      refine jlret hF hr (by decide +kernel) ?_
      exact lMR ⟨(SR.s hR (Or.inr (by decide))), by first | exact ⟨fun h => absurd h (by omega), fun _ => ⟨rfl, rfl⟩⟩ | exact ⟨fun _ => ⟨(EQ36.f _ _).fprtV (s2_k (by decide)) _ _, rfl⟩, fun h => absurd (by omega) h⟩⟩
    · refine jif_eq hF (off := 7) 22 (by decide +kernel) (by decide) (by decide) (fun _ => ?_) (fun h => absurd h (by decide))
      refine jblk hF [(.iconst 1, 1)] (by decide +kernel) (pc' := 23) (lo' := [(0, (2, 35)), (1, (0, p)), (2, (0, n))]) (st' := [(0, 1), (2, 35)]) rfl ?_
      refine jput hF 13 1 0 1 rfl (by decide) (by decide) rfl wd_1464 (by decide +kernel) rfl (Or.inl rfl) (by exact hS.k35) (fun h => by cases h) ?_
      refine jblk hF [(.aload_n 0, 1)] (by decide +kernel) (pc' := 27) (lo' := [(0, (2, 35)), (1, (0, p)), (2, (0, n))]) (st' := [(2, 35)]) rfl ?_
      refine jget hF 13 1 0 1 rfl (by decide) (by decide) rfl wd_1464 (by decide +kernel) (by exact hS.k35) ?_
      rw [show (set2 mem 35 1 1) 35 1 = 1 from s2_s]
      refine jblk hF [(.iconst 1, 1)] (by decide +kernel) (pc' := 31) (lo' := [(0, (2, 35)), (1, (0, p)), (2, (0, n))]) (st' := [(0, 1), (0, 1)]) rfl ?_
      refine jicmp_ne hF (off := 7) 38 (by decide +kernel) (by decide) (by decide) (by decide) (fun h => absurd h (by decide)) (fun _ => ?_)
      refine jlconst hF (n := 0) 0 rfl (by decide +kernel) ?_
      refine jgoto hF (off := 9) 44 (by decide +kernel) (by decide) ?_
      refine jlret hF hr (by decide +kernel) ?_
      exact lMR ⟨(SR.s hR (Or.inr (by decide))), by first | exact ⟨fun h => absurd h (by omega), fun _ => ⟨rfl, rfl⟩⟩ | exact ⟨fun _ => ⟨(EQ36.f _ _).fprtV (s2_k (by decide)) _ _, rfl⟩, fun h => absurd (by omega) h⟩⟩
  · refine jif_eq hF (off := 16) 22 (by decide +kernel) (by decide) (by decide) (fun _ => ?_) (fun h => absurd h (by decide))
    refine jblk hF [(.iconst 1, 1)] (by decide +kernel) (pc' := 23) (lo' := [(0, (2, 35)), (1, (0, p)), (2, (0, n))]) (st' := [(0, 1), (2, 35)]) rfl ?_
    refine jput hF 13 1 0 1 rfl (by decide) (by decide) rfl wd_1464 (by decide +kernel) rfl (Or.inl rfl) (by exact hS.k35) (fun h => by cases h) ?_
    refine jblk hF [(.aload_n 0, 1)] (by decide +kernel) (pc' := 27) (lo' := [(0, (2, 35)), (1, (0, p)), (2, (0, n))]) (st' := [(2, 35)]) rfl ?_
    refine jget hF 13 1 0 1 rfl (by decide) (by decide) rfl wd_1464 (by decide +kernel) (by exact hS.k35) ?_
    rw [show (set2 mem 35 1 1) 35 1 = 1 from s2_s]
    refine jblk hF [(.iconst 1, 1)] (by decide +kernel) (pc' := 31) (lo' := [(0, (2, 35)), (1, (0, p)), (2, (0, n))]) (st' := [(0, 1), (0, 1)]) rfl ?_
    refine jicmp_ne hF (off := 7) 38 (by decide +kernel) (by decide) (by decide) (by decide) (fun h => absurd h (by decide)) (fun _ => ?_)
    refine jlconst hF (n := 0) 0 rfl (by decide +kernel) ?_
    refine jgoto hF (off := 9) 44 (by decide +kernel) (by decide) ?_
    refine jlret hF hr (by decide +kernel) ?_
    exact lMR ⟨(SR.s hR (Or.inr (by decide))), by first | exact ⟨fun h => absurd h (by omega), fun _ => ⟨rfl, rfl⟩⟩ | exact ⟨fun _ => ⟨(EQ36.f _ _).fprtV (s2_k (by decide)) _ _, rfl⟩, fun h => absurd (by omega) h⟩⟩
set_option maxHeartbeats 4000000 in
set_option maxRecDepth 100000 in
theorem c_X12_press {l : Launch} {g : GP} (hG : GH g) {kd : Int → Nat} {ln : Int → Int} {mem : Int → Int → Int} {sz : Nat} (hS : SK kd ln) (hR : SR mem) (p n j f : Int) (h_p : InI p) (h_n : InI n) (h_j : InI j) (h_f : InI f) (hPS : PGS mem) (hIS : IST mem) (hPR : PRS mem) : MT l g yX12_press cX12_press 7 (some .boolean) 3 0 0 [(2, 35), (0, p), (0, n), (0, j), (0, f)] kd ln mem sz (pMB (fun c mem' => SR mem' ∧ ((c ↔ preC mem p n j f) ∧ mem' = (if preC mem p n j f then preM mem p n j f else mem))) kd ln sz) := by
  refine MT_of hG (by decide +kernel) (Nat.le_of_ble_eq_true rfl) (fun z hF hr hn => ?_)
  refine jblk hF [(.aload_n 0, 1), (.iload_n 1, 1)] (by decide +kernel) (pc' := 2) (lo' := [(0, (2, 35)), (1, (0, p)), (2, (0, n)), (3, (0, j)), (4, (0, f))]) (st' := [(0, p), (2, 35)]) rfl ?_
  refine jcallV hF (c_X12_isPlate hG hS hR p (by omega) (by omega) (by first | exact hIS)) MW_X12_isPlate 13 (by decide) (by exact hS.k35) wd_2162 wd_2164 wd_p98 (by decide +kernel) [] rfl rfl (by decide) (Nat.le_of_ble_eq_true rfl) (by decide) (kB (fun h_1 => ?_) (fun h_1 => ?_))
  · refine jif_eq hF (off := 33) 38 (by decide +kernel) (by decide) (by decide) (fun h => absurd h (by decide)) (fun _ => ?_)
    have hp := hPS.2.2 p (by omega) (by omega)
    refine jblk hF [(.aload_n 0, 1), (.iload_n 1, 1), (.iload_n 2, 1)] (by decide +kernel) (pc' := 11) (lo' := [(0, (2, 35)), (1, (0, p)), (2, (0, n)), (3, (0, j)), (4, (0, f))]) (st' := [(0, n), (0, p), (2, 35)]) rfl ?_
    refine jcallV hF (c_X12_isLine hG hS hR p n (by omega) (by omega) (by exact hPS)) MW_X12_isLine 13 (by decide) (by exact hS.k35) wd_1954 wd_1956 wd_p76 (by decide +kernel) [] rfl rfl (by decide) (Nat.le_of_ble_eq_true rfl) (by decide) (kB (fun h_3 => ?_) (fun h_3 => ?_))
    · refine jif_eq hF (off := 24) 38 (by decide +kernel) (by decide) (by decide) (fun h => absurd h (by decide)) (fun _ => ?_)
      refine jblk hF [(.iload_n 3, 1), (.iconst 0, 1), (.bipush 12, 2)] (by decide +kernel) (pc' := 21) (lo' := [(0, (2, 35)), (1, (0, p)), (2, (0, n)), (3, (0, j)), (4, (0, f))]) (st' := [(0, 12), (0, 0), (0, j)]) rfl ?_
      refine jcallS hF (c_X12_in hG j 0 12 (by omega) (by decide) (by decide)) MW_X12_in wd_1743 wd_1744 (by decide +kernel) [] rfl rfl (by decide) (Nat.le_of_ble_eq_true rfl) (by decide) (kB (fun h_5 => ?_) (fun h_5 => ?_))
      · refine jif_eq hF (off := 14) 38 (by decide +kernel) (by decide) (by decide) (fun h => absurd h (by decide)) (fun _ => ?_)
        refine jblk hF [(.iload 4, 2), (.iconst 0, 1), (.bipush 9, 2)] (by decide +kernel) (pc' := 32) (lo' := [(0, (2, 35)), (1, (0, p)), (2, (0, n)), (3, (0, j)), (4, (0, f))]) (st' := [(0, 9), (0, 0), (0, f)]) rfl ?_
        refine jcallS hF (c_X12_in hG f 0 9 (by omega) (by decide) (by decide)) MW_X12_in wd_1743 wd_1744 (by decide +kernel) [] rfl rfl (by decide) (Nat.le_of_ble_eq_true rfl) (by decide) (kB (fun h_7 => ?_) (fun h_7 => ?_))
        · refine jif_ne hF (off := 5) 40 (by decide +kernel) (by decide) (by decide) (fun _ => ?_) (fun h => absurd h (by decide))
          refine jblk hF [(.aload_n 0, 1)] (by decide +kernel) (pc' := 41) (lo' := [(0, (2, 35)), (1, (0, p)), (2, (0, n)), (3, (0, j)), (4, (0, f))]) (st' := [(2, 35)]) rfl ?_
          refine jget hF 13 72 0 72 rfl (by decide) (by decide) rfl wd_1535 (by decide +kernel) (by exact hS.k35) ?_
          refine jblk hF [(.istore 5, 2), (.iconst 0, 1), (.istore 6, 2)] (by decide +kernel) (pc' := 49) (lo' := [(6, (0, 0)), (5, (0, mem 35 72)), (0, (2, 35)), (1, (0, p)), (2, (0, n)), (3, (0, j)), (4, (0, f))]) (st' := []) rfl ?_
          have L_10 : ∀ (fu_11 : Nat) (w : Int) (i : Int), (0 ≤ i ∧ i ≤ mem 35 72) → (w = psN mem p n j i.toNat ∧ 0 ≤ w ∧ w ≤ mem 35 72) →  (mem 35 72 - i).toNat < fu_11 → J z g 7 0 0 (QM z g 0 0 (pMB (fun c mem' => SR mem' ∧ ((c ↔ preC mem p n j f) ∧ mem' = (if preC mem p n j f then preM mem p n j f else mem))) kd ln sz)) 49 [(0, (2, 35)), (1, (0, p)), (2, (0, n)), (3, (0, j)), (4, (0, f)), (5, (0, w)), (6, (0, i))] [] kd ln mem sz := by
            intro fu_11
            induction fu_11 with
            | zero => intro w i _ _ hm; omega
            | succ fu_11 ih_9 =>
              intro w i hi hw hm
              refine jblk hF [(.iload 6, 2), (.aload_n 0, 1)] (by decide +kernel) (pc' := 52) (lo' := [(0, (2, 35)), (1, (0, p)), (2, (0, n)), (3, (0, j)), (4, (0, f)), (5, (0, w)), (6, (0, i))]) (st' := [(2, 35), (0, i)]) rfl ?_
              refine jget hF 13 72 0 72 rfl (by decide) (by decide) rfl wd_1535 (by decide +kernel) (by exact hS.k35) ?_
              refine jicmp_ge hF (off := 51) 106 (by decide +kernel) (by decide) (by omega) (by omega) (fun h_12 => ?_) (fun h_12 => ?_)
              · have hie : i = mem 35 72 := by omega
                rw [hie] at hw
                refine jblk hF [(.iload 5, 2), (.bipush 80, 2)] (by decide +kernel) (pc' := 110) (lo' := [(0, (2, 35)), (1, (0, p)), (2, (0, n)), (3, (0, j)), (4, (0, f)), (5, (0, w)), (6, (0, i))]) (st' := [(0, 80), (0, w)]) rfl ?_
                refine jicmp_ne hF (off := 5) 115 (by decide +kernel) (by decide) (by omega) (by decide) (fun h_13 => ?_) (fun h_13 => ?_)
                · refine jblk hF [(.aload_n 0, 1)] (by decide +kernel) (pc' := 116) (lo' := [(0, (2, 35)), (1, (0, p)), (2, (0, n)), (3, (0, j)), (4, (0, f)), (5, (0, w)), (6, (0, i))]) (st' := [(2, 35)]) rfl ?_
                  refine jget hF 13 68 2 68 rfl (by decide) (by decide) rfl wd_1531 (by decide +kernel) (by exact hS.k35) ?_
                  rw [SR.r68 hR]
                  refine jblk hF [(.iload 5, 2), (.iload_n 1, 1)] (by decide +kernel) (pc' := 122) (lo' := [(0, (2, 35)), (1, (0, p)), (2, (0, n)), (3, (0, j)), (4, (0, f)), (5, (0, w)), (6, (0, i))]) (st' := [(0, p), (0, w), (2, 84)]) rfl ?_
                  refine jiast hF (by decide +kernel) (by decide) (by exact hS.k84) (by omega) (by have := hS.l84; omega) ?_
                  refine jblk hF [(.aload_n 0, 1)] (by decide +kernel) (pc' := 124) (lo' := [(0, (2, 35)), (1, (0, p)), (2, (0, n)), (3, (0, j)), (4, (0, f)), (5, (0, w)), (6, (0, i))]) (st' := [(2, 35)]) rfl ?_
                  refine jget hF 13 69 2 69 rfl (by decide) (by decide) rfl wd_1532 (by decide +kernel) (by exact hS.k35) ?_
                  rw [SR.r69 (SR.s hR (Or.inl (by decide)))]
                  refine jblk hF [(.iload 5, 2), (.iload_n 2, 1)] (by decide +kernel) (pc' := 130) (lo' := [(0, (2, 35)), (1, (0, p)), (2, (0, n)), (3, (0, j)), (4, (0, f)), (5, (0, w)), (6, (0, i))]) (st' := [(0, n), (0, w), (2, 85)]) rfl ?_
                  refine jiast hF (by decide +kernel) (by decide) (by exact hS.k85) (by omega) (by have := hS.l85; omega) ?_
                  refine jblk hF [(.aload_n 0, 1)] (by decide +kernel) (pc' := 132) (lo' := [(0, (2, 35)), (1, (0, p)), (2, (0, n)), (3, (0, j)), (4, (0, f)), (5, (0, w)), (6, (0, i))]) (st' := [(2, 35)]) rfl ?_
                  refine jget hF 13 70 2 70 rfl (by decide) (by decide) rfl wd_1533 (by decide +kernel) (by exact hS.k35) ?_
                  rw [SR.r70 (SR.s (SR.s hR (Or.inl (by decide))) (Or.inl (by decide)))]
                  refine jblk hF [(.iload 5, 2), (.iload_n 3, 1)] (by decide +kernel) (pc' := 138) (lo' := [(0, (2, 35)), (1, (0, p)), (2, (0, n)), (3, (0, j)), (4, (0, f)), (5, (0, w)), (6, (0, i))]) (st' := [(0, j), (0, w), (2, 86)]) rfl ?_
                  refine jiast hF (by decide +kernel) (by decide) (by exact hS.k86) (by omega) (by have := hS.l86; omega) ?_
                  refine jblk hF [(.aload_n 0, 1)] (by decide +kernel) (pc' := 140) (lo' := [(0, (2, 35)), (1, (0, p)), (2, (0, n)), (3, (0, j)), (4, (0, f)), (5, (0, w)), (6, (0, i))]) (st' := [(2, 35)]) rfl ?_
                  refine jget hF 13 71 2 71 rfl (by decide) (by decide) rfl wd_1534 (by decide +kernel) (by exact hS.k35) ?_
                  rw [SR.r71 (SR.s (SR.s (SR.s hR (Or.inl (by decide))) (Or.inl (by decide))) (Or.inl (by decide)))]
                  refine jblk hF [(.iload 5, 2), (.iload 4, 2)] (by decide +kernel) (pc' := 147) (lo' := [(0, (2, 35)), (1, (0, p)), (2, (0, n)), (3, (0, j)), (4, (0, f)), (5, (0, w)), (6, (0, i))]) (st' := [(0, f), (0, w), (2, 87)]) rfl ?_
                  refine jiast hF (by decide +kernel) (by decide) (by exact hS.k87) (by omega) (by have := hS.l87; omega) ?_
                  refine jblk hF [(.aload_n 0, 1), (.dup, 1)] (by decide +kernel) (pc' := 150) (lo' := [(0, (2, 35)), (1, (0, p)), (2, (0, n)), (3, (0, j)), (4, (0, f)), (5, (0, w)), (6, (0, i))]) (st' := [(2, 35), (2, 35)]) rfl ?_
                  refine jget hF 13 72 0 72 rfl (by decide) (by decide) rfl wd_1535 (by decide +kernel) (by exact hS.k35) ?_
                  rw [show (set2 (set2 (set2 (set2 mem 84 w p) 85 w n) 86 w j) 87 w f) 35 72 = mem 35 72 from ((s2_a (by decide)).trans ((s2_a (by decide)).trans ((s2_a (by decide)).trans (s2_a (by decide)))))]
                  refine jblk hF [(.iload 5, 2), (.aload_n 0, 1)] (by decide +kernel) (pc' := 156) (lo' := [(0, (2, 35)), (1, (0, p)), (2, (0, n)), (3, (0, j)), (4, (0, f)), (5, (0, w)), (6, (0, i))]) (st' := [(2, 35), (0, w), (0, mem 35 72), (2, 35)]) rfl ?_
                  refine jget hF 13 72 0 72 rfl (by decide) (by decide) rfl wd_1535 (by decide +kernel) (by exact hS.k35) ?_
                  rw [show (set2 (set2 (set2 (set2 mem 84 w p) 85 w n) 86 w j) 87 w f) 35 72 = mem 35 72 from ((s2_a (by decide)).trans ((s2_a (by decide)).trans ((s2_a (by decide)).trans (s2_a (by decide)))))]
                  refine jicmp_ne hF (off := 7) 166 (by decide +kernel) (by decide) (by omega) (by omega) (fun h_14 => ?_) (fun h_14 => ?_)
                  · refine jblk hF [(.iconst 0, 1), (.iadd, 1)] (by decide +kernel) (pc' := 168) (lo' := [(0, (2, 35)), (1, (0, p)), (2, (0, n)), (3, (0, j)), (4, (0, f)), (5, (0, w)), (6, (0, i))]) (st' := [(0, (mem 35 72) + 0), (2, 35)]) rfl ?_
                    refine jput hF 13 72 0 72 rfl (by decide) (by decide) rfl wd_1535 (by decide +kernel) rfl (Or.inl rfl) (by exact hS.k35) (fun h => by cases h) ?_
                    refine jblk hF [(.iconst 1, 1)] (by decide +kernel) (pc' := 172) (lo' := [(0, (2, 35)), (1, (0, p)), (2, (0, n)), (3, (0, j)), (4, (0, f)), (5, (0, w)), (6, (0, i))]) (st' := [(0, 1)]) rfl ?_
                    refine jzret hF hr (by omega) (by decide +kernel) ?_
                    exact lMB1 ⟨(SR.s (SR.s (SR.s (SR.s (SR.s hR (Or.inl (by decide))) (Or.inl (by decide))) (Or.inl (by decide))) (Or.inl (by decide))) (Or.inr (by decide))), by first | exact ⟨⟨fun h => h.elim, fun h => absurd h (by omega)⟩, (if_neg (by omega)).symm⟩ | exact ⟨⟨fun _ => by omega, fun _ => trivial⟩, by rw [if_pos (by omega)]; unfold preM; rw [← hw.1]; first | (rw [if_pos (by omega)]; done) | (rw [if_neg (by omega)]; done)⟩⟩
                  · refine jblk hF [(.iconst 1, 1)] (by decide +kernel) (pc' := 163) (lo' := [(0, (2, 35)), (1, (0, p)), (2, (0, n)), (3, (0, j)), (4, (0, f)), (5, (0, w)), (6, (0, i))]) (st' := [(0, 1), (0, mem 35 72), (2, 35)]) rfl ?_
                    refine jgoto hF (off := 4) 167 (by decide +kernel) (by decide) ?_
                    refine jblk hF [(.iadd, 1)] (by decide +kernel) (pc' := 168) (lo' := [(0, (2, 35)), (1, (0, p)), (2, (0, n)), (3, (0, j)), (4, (0, f)), (5, (0, w)), (6, (0, i))]) (st' := [(0, (mem 35 72) + 1), (2, 35)]) rfl ?_
                    refine jput hF 13 72 0 72 rfl (by decide) (by decide) rfl wd_1535 (by decide +kernel) rfl (Or.inl rfl) (by exact hS.k35) (fun h => by cases h) ?_
                    refine jblk hF [(.iconst 1, 1)] (by decide +kernel) (pc' := 172) (lo' := [(0, (2, 35)), (1, (0, p)), (2, (0, n)), (3, (0, j)), (4, (0, f)), (5, (0, w)), (6, (0, i))]) (st' := [(0, 1)]) rfl ?_
                    refine jzret hF hr (by omega) (by decide +kernel) ?_
                    exact lMB1 ⟨(SR.s (SR.s (SR.s (SR.s (SR.s hR (Or.inl (by decide))) (Or.inl (by decide))) (Or.inl (by decide))) (Or.inl (by decide))) (Or.inr (by decide))), by first | exact ⟨⟨fun h => h.elim, fun h => absurd h (by omega)⟩, (if_neg (by omega)).symm⟩ | exact ⟨⟨fun _ => by omega, fun _ => trivial⟩, by rw [if_pos (by omega)]; unfold preM; rw [← hw.1]; first | (rw [if_pos (by omega)]; done) | (rw [if_neg (by omega)]; done)⟩⟩
                · refine jblk hF [(.iconst 0, 1)] (by decide +kernel) (pc' := 114) (lo' := [(0, (2, 35)), (1, (0, p)), (2, (0, n)), (3, (0, j)), (4, (0, f)), (5, (0, w)), (6, (0, i))]) (st' := [(0, 0)]) rfl ?_
                  refine jzret hF hr (by omega) (by decide +kernel) ?_
                  exact lMB0 ⟨hR, by first | exact ⟨⟨fun h => h.elim, fun h => absurd h (by omega)⟩, (if_neg (by omega)).symm⟩ | exact ⟨⟨fun _ => by omega, fun _ => trivial⟩, by rw [if_pos (by omega)]; unfold preM; rw [← hw.1]; first | (rw [if_pos (by omega)]; done) | (rw [if_neg (by omega)]; done)⟩⟩
              · have hr9 := hPR.2.2 i (by omega) (by omega)
                refine jblk hF [(.aload_n 0, 1)] (by decide +kernel) (pc' := 59) (lo' := [(0, (2, 35)), (1, (0, p)), (2, (0, n)), (3, (0, j)), (4, (0, f)), (5, (0, w)), (6, (0, i))]) (st' := [(2, 35)]) rfl ?_
                refine jget hF 13 68 2 68 rfl (by decide) (by decide) rfl wd_1531 (by decide +kernel) (by exact hS.k35) ?_
                rw [SR.r68 hR]
                refine jblk hF [(.iload 6, 2)] (by decide +kernel) (pc' := 64) (lo' := [(0, (2, 35)), (1, (0, p)), (2, (0, n)), (3, (0, j)), (4, (0, f)), (5, (0, w)), (6, (0, i))]) (st' := [(0, i), (2, 84)]) rfl ?_
                refine jiald hF (by decide +kernel) (by exact hS.k84) (by omega) (by have := hS.l84; omega) ?_
                refine jblk hF [(.iload_n 1, 1)] (by decide +kernel) (pc' := 66) (lo' := [(0, (2, 35)), (1, (0, p)), (2, (0, n)), (3, (0, j)), (4, (0, f)), (5, (0, w)), (6, (0, i))]) (st' := [(0, p), (0, mem 84 i)]) rfl ?_
                refine jicmp_ne hF (off := 30) 96 (by decide +kernel) (by decide) (by omega) (by omega) (fun h_15 => ?_) (fun h_15 => ?_)
                · refine jblk hF [(.iload 5, 2), (.istore 5, 2), (.iinc 6 1, 3)] (by decide +kernel) (pc' := 103) (lo' := [(6, (0, i + 1)), (5, (0, w)), (0, (2, 35)), (1, (0, p)), (2, (0, n)), (3, (0, j)), (4, (0, f))]) (st' := []) rfl ?_
                  refine jgoto hF (off := (-54)) 49 (by decide +kernel) (by decide) ?_
                  refine jsub [2, 3, 4, 5, 6, 1, 0] rfl ?_
                  refine ih_9 w (i + 1) ?_ ?_ ?_
                  · omega
                  · exact ⟨by rw [psN_s (by omega)]; first | (rw [if_pos (by omega)]; done) | (rw [if_neg (by omega)]; omega), by omega, by omega⟩
                  · omega
                · refine jblk hF [(.aload_n 0, 1)] (by decide +kernel) (pc' := 70) (lo' := [(0, (2, 35)), (1, (0, p)), (2, (0, n)), (3, (0, j)), (4, (0, f)), (5, (0, w)), (6, (0, i))]) (st' := [(2, 35)]) rfl ?_
                  refine jget hF 13 69 2 69 rfl (by decide) (by decide) rfl wd_1532 (by decide +kernel) (by exact hS.k35) ?_
                  rw [SR.r69 hR]
                  refine jblk hF [(.iload 6, 2)] (by decide +kernel) (pc' := 75) (lo' := [(0, (2, 35)), (1, (0, p)), (2, (0, n)), (3, (0, j)), (4, (0, f)), (5, (0, w)), (6, (0, i))]) (st' := [(0, i), (2, 85)]) rfl ?_
                  refine jiald hF (by decide +kernel) (by exact hS.k85) (by omega) (by have := hS.l85; omega) ?_
                  refine jblk hF [(.iload_n 2, 1)] (by decide +kernel) (pc' := 77) (lo' := [(0, (2, 35)), (1, (0, p)), (2, (0, n)), (3, (0, j)), (4, (0, f)), (5, (0, w)), (6, (0, i))]) (st' := [(0, n), (0, mem 85 i)]) rfl ?_
                  refine jicmp_ne hF (off := 19) 96 (by decide +kernel) (by decide) (by omega) (by omega) (fun h_16 => ?_) (fun h_16 => ?_)
                  · refine jblk hF [(.iload 5, 2), (.istore 5, 2), (.iinc 6 1, 3)] (by decide +kernel) (pc' := 103) (lo' := [(6, (0, i + 1)), (5, (0, w)), (0, (2, 35)), (1, (0, p)), (2, (0, n)), (3, (0, j)), (4, (0, f))]) (st' := []) rfl ?_
                    refine jgoto hF (off := (-54)) 49 (by decide +kernel) (by decide) ?_
                    refine jsub [2, 3, 4, 5, 6, 1, 0] rfl ?_
                    refine ih_9 w (i + 1) ?_ ?_ ?_
                    · omega
                    · exact ⟨by rw [psN_s (by omega)]; first | (rw [if_pos (by omega)]; done) | (rw [if_neg (by omega)]; omega), by omega, by omega⟩
                    · omega
                  · refine jblk hF [(.aload_n 0, 1)] (by decide +kernel) (pc' := 81) (lo' := [(0, (2, 35)), (1, (0, p)), (2, (0, n)), (3, (0, j)), (4, (0, f)), (5, (0, w)), (6, (0, i))]) (st' := [(2, 35)]) rfl ?_
                    refine jget hF 13 70 2 70 rfl (by decide) (by decide) rfl wd_1533 (by decide +kernel) (by exact hS.k35) ?_
                    rw [SR.r70 hR]
                    refine jblk hF [(.iload 6, 2)] (by decide +kernel) (pc' := 86) (lo' := [(0, (2, 35)), (1, (0, p)), (2, (0, n)), (3, (0, j)), (4, (0, f)), (5, (0, w)), (6, (0, i))]) (st' := [(0, i), (2, 86)]) rfl ?_
                    refine jiald hF (by decide +kernel) (by exact hS.k86) (by omega) (by have := hS.l86; omega) ?_
                    refine jblk hF [(.iload_n 3, 1)] (by decide +kernel) (pc' := 88) (lo' := [(0, (2, 35)), (1, (0, p)), (2, (0, n)), (3, (0, j)), (4, (0, f)), (5, (0, w)), (6, (0, i))]) (st' := [(0, j), (0, mem 86 i)]) rfl ?_
                    refine jicmp_ne hF (off := 8) 96 (by decide +kernel) (by decide) (by omega) (by omega) (fun h_17 => ?_) (fun h_17 => ?_)
                    · refine jblk hF [(.iload 5, 2), (.istore 5, 2), (.iinc 6 1, 3)] (by decide +kernel) (pc' := 103) (lo' := [(6, (0, i + 1)), (5, (0, w)), (0, (2, 35)), (1, (0, p)), (2, (0, n)), (3, (0, j)), (4, (0, f))]) (st' := []) rfl ?_
                      refine jgoto hF (off := (-54)) 49 (by decide +kernel) (by decide) ?_
                      refine jsub [2, 3, 4, 5, 6, 1, 0] rfl ?_
                      refine ih_9 w (i + 1) ?_ ?_ ?_
                      · omega
                      · exact ⟨by rw [psN_s (by omega)]; first | (rw [if_pos (by omega)]; done) | (rw [if_neg (by omega)]; omega), by omega, by omega⟩
                      · omega
                    · refine jblk hF [(.iload 6, 2)] (by decide +kernel) (pc' := 93) (lo' := [(0, (2, 35)), (1, (0, p)), (2, (0, n)), (3, (0, j)), (4, (0, f)), (5, (0, w)), (6, (0, i))]) (st' := [(0, i)]) rfl ?_
                      refine jgoto hF (off := 5) 98 (by decide +kernel) (by decide) ?_
                      refine jblk hF [(.istore 5, 2), (.iinc 6 1, 3)] (by decide +kernel) (pc' := 103) (lo' := [(6, (0, i + 1)), (5, (0, i)), (0, (2, 35)), (1, (0, p)), (2, (0, n)), (3, (0, j)), (4, (0, f))]) (st' := []) rfl ?_
                      refine jgoto hF (off := (-54)) 49 (by decide +kernel) (by decide) ?_
                      refine jsub [2, 3, 4, 5, 6, 1, 0] rfl ?_
                      refine ih_9 i (i + 1) ?_ ?_ ?_
                      · omega
                      · exact ⟨by rw [psN_s (by omega)]; first | (rw [if_pos (by omega)]; done) | (rw [if_neg (by omega)]; omega), by omega, by omega⟩
                      · omega
          refine jsub [2, 3, 4, 5, 6, 1, 0] rfl ?_
          refine L_10 _ (mem 35 72) 0 ?_ ?_ (Nat.lt_succ_self _)
          · omega
          · exact ⟨rfl, by omega, by omega⟩
        · refine jif_ne hF (off := 5) 40 (by decide +kernel) (by decide) (by decide) (fun h => absurd h (by decide)) (fun _ => ?_)
          refine jblk hF [(.iconst 0, 1)] (by decide +kernel) (pc' := 39) (lo' := [(0, (2, 35)), (1, (0, p)), (2, (0, n)), (3, (0, j)), (4, (0, f))]) (st' := [(0, 0)]) rfl ?_
          refine jzret hF hr (by omega) (by decide +kernel) ?_
          exact lMB0 ⟨hR, by first | exact ⟨⟨fun h => h.elim, fun h => absurd h (by omega)⟩, (if_neg (by omega)).symm⟩ | exact ⟨⟨fun _ => by omega, fun _ => trivial⟩, by rw [if_pos (by omega)]; unfold preM; rw [← hw.1]; first | (rw [if_pos (by omega)]; done) | (rw [if_neg (by omega)]; done)⟩⟩
      · refine jif_eq hF (off := 14) 38 (by decide +kernel) (by decide) (by decide) (fun _ => ?_) (fun h => absurd h (by decide))
        refine jblk hF [(.iconst 0, 1)] (by decide +kernel) (pc' := 39) (lo' := [(0, (2, 35)), (1, (0, p)), (2, (0, n)), (3, (0, j)), (4, (0, f))]) (st' := [(0, 0)]) rfl ?_
        refine jzret hF hr (by omega) (by decide +kernel) ?_
        exact lMB0 ⟨hR, by first | exact ⟨⟨fun h => h.elim, fun h => absurd h (by omega)⟩, (if_neg (by omega)).symm⟩ | exact ⟨⟨fun _ => by omega, fun _ => trivial⟩, by rw [if_pos (by omega)]; unfold preM; rw [← hw.1]; first | (rw [if_pos (by omega)]; done) | (rw [if_neg (by omega)]; done)⟩⟩
    · refine jif_eq hF (off := 24) 38 (by decide +kernel) (by decide) (by decide) (fun _ => ?_) (fun h => absurd h (by decide))
      refine jblk hF [(.iconst 0, 1)] (by decide +kernel) (pc' := 39) (lo' := [(0, (2, 35)), (1, (0, p)), (2, (0, n)), (3, (0, j)), (4, (0, f))]) (st' := [(0, 0)]) rfl ?_
      refine jzret hF hr (by omega) (by decide +kernel) ?_
      exact lMB0 ⟨hR, by first | exact ⟨⟨fun h => h.elim, fun h => absurd h (by omega)⟩, (if_neg (by omega)).symm⟩ | exact ⟨⟨fun _ => by omega, fun _ => trivial⟩, by rw [if_pos (by omega)]; unfold preM; rw [← hw.1]; first | (rw [if_pos (by omega)]; done) | (rw [if_neg (by omega)]; done)⟩⟩
  · refine jif_eq hF (off := 33) 38 (by decide +kernel) (by decide) (by decide) (fun _ => ?_) (fun h => absurd h (by decide))
    refine jblk hF [(.iconst 0, 1)] (by decide +kernel) (pc' := 39) (lo' := [(0, (2, 35)), (1, (0, p)), (2, (0, n)), (3, (0, j)), (4, (0, f))]) (st' := [(0, 0)]) rfl ?_
    refine jzret hF hr (by omega) (by decide +kernel) ?_
    exact lMB0 ⟨hR, by first | exact ⟨⟨fun h => h.elim, fun h => absurd h (by omega)⟩, (if_neg (by omega)).symm⟩ | exact ⟨⟨fun _ => by omega, fun _ => trivial⟩, by rw [if_pos (by omega)]; unfold preM; rw [← hw.1]; first | (rw [if_pos (by omega)]; done) | (rw [if_neg (by omega)]; done)⟩⟩
end
