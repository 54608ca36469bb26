section
theorem fland_15 (a : Int) : fland a 15 = a % 16 := by
  have h1 := L_bv a
  have h2 : (Int64.ofInt a &&& Int64.ofInt 15).toBitVec.toNat = (Int64.ofInt a).toBitVec.toNat % 16 := by
    rw [Int64.toBitVec_and, BitVec.toNat_and]
    exact Nat.and_two_pow_sub_one_eq_mod _ 4
  have h3 : (Int64.ofInt a &&& Int64.ofInt 15).toInt = ((Int64.ofInt a).toBitVec.toNat % 16 : Nat) := by
    show (Int64.ofInt a &&& Int64.ofInt 15).toBitVec.toInt = _
    rw [BitVec.toInt_eq_toNat_of_lt (by rw [h2]; omega), h2]
  unfold fland
  rw [h3]
  omega
/-- the places of four bits -/
theorem nib_sh {a j : Int} (ha : 0 ≤ a ∧ a < 9223372036854775808) (hj : 0 ≤ j ∧ j ≤ 12) : flushr a (4 * j) = a / 16 ^ j.toNat := by
  have h1 := L_bv a
  have key : ∀ k : Nat, flushr a (4 * j) = (BitVec.ushiftRight (Int64.ofInt a).toBitVec k).toInt → k < 64 → (16 : Int) ^ j.toNat = ((2 ^ k : Nat) : Int) → flushr a (4 * j) = a / 16 ^ j.toNat := by
    intro k e hk e2
    have h2 : ((BitVec.ushiftRight (Int64.ofInt a).toBitVec k).toNat) = (Int64.ofInt a).toBitVec.toNat / 2 ^ k := by
      show ((Int64.ofInt a).toBitVec >>> k).toNat = _
      rw [BitVec.toNat_ushiftRight, Nat.shiftRight_eq_div_pow]
    have h4 : (Int64.ofInt a).toBitVec.toNat / 2 ^ k ≤ (Int64.ofInt a).toBitVec.toNat := Nat.div_le_self _ _
    rw [e, BitVec.toInt_eq_toNat_of_lt (by rw [h2]; omega), h2, e2, Int.natCast_ediv]
    congr 1
    omega
  rcases (show j = 0 ∨ j = 1 ∨ j = 2 ∨ j = 3 ∨ j = 4 ∨ j = 5 ∨ j = 6 ∨ j = 7 ∨ j = 8 ∨ j = 9 ∨ j = 10 ∨ j = 11 ∨ j = 12 by omega) with rfl | rfl | rfl | rfl | rfl | rfl | rfl | rfl | rfl | rfl | rfl | rfl | rfl
  · exact key 0 rfl (by decide) (by decide)
  · exact key 4 rfl (by decide) (by decide)
  · exact key 8 rfl (by decide) (by decide)
  · exact key 12 rfl (by decide) (by decide)
  · exact key 16 rfl (by decide) (by decide)
  · exact key 20 rfl (by decide) (by decide)
  · exact key 24 rfl (by decide) (by decide)
  · exact key 28 rfl (by decide) (by decide)
  · exact key 32 rfl (by decide) (by decide)
  · exact key 36 rfl (by decide) (by decide)
  · exact key 40 rfl (by decide) (by decide)
  · exact key 44 rfl (by decide) (by decide)
  · exact key 48 rfl (by decide) (by decide)
theorem nat_put (w f k i : Nat) (hf : f < 16) : ((w / 2 ^ (k + 4)) * 2 ^ (k + 4) + (f * 2 ^ k + w % 2 ^ k)).testBit i = (if i < k then w.testBit i else if i < k + 4 then f.testBit (i - k) else w.testBit i) := by
  have h0 : w % 2 ^ k < 2 ^ k := Nat.mod_lt _ (Nat.two_pow_pos k)
  have h1 : f * 2 ^ k + w % 2 ^ k < 2 ^ (k + 4) := by
    have : f * 2 ^ k ≤ 15 * 2 ^ k := Nat.mul_le_mul_right _ (by omega)
    rw [Nat.pow_add]
    omega
  rw [Nat.mul_comm (w / 2 ^ (k + 4)), Nat.testBit_two_pow_mul_add _ h1]
  by_cases c1 : i < k + 4
  · rw [if_pos c1, Nat.mul_comm f, Nat.testBit_two_pow_mul_add _ h0]
    by_cases c2 : i < k
    · rw [if_pos c2, if_pos c2, Nat.testBit_mod_two_pow]; simp [c2]
    · rw [if_neg c2, if_neg c2, if_pos c1]
  · rw [if_neg c1, if_neg (by omega), if_neg c1, Nat.testBit_div_two_pow]
    congr 1
    omega
theorem f15 (t : Nat) : (15 : Nat).testBit t = decide (t < 4) := Nat.testBit_two_pow_sub_one 4 t
theorem bv_put (w f : BitVec 64) (k : Nat) (hf : f.toNat < 16) (hk : k + 4 ≤ 64) : ((w &&& ((15#64 <<< k) ^^^ (BitVec.allOnes 64))) ||| (f <<< k)).toNat = (w.toNat / 2 ^ (k + 4)) * 2 ^ (k + 4) + (f.toNat * 2 ^ k + w.toNat % 2 ^ k) := by
  apply Nat.eq_of_testBit_eq
  intro i
  rw [nat_put _ _ _ _ hf, BitVec.testBit_toNat, BitVec.getLsbD_or, BitVec.getLsbD_and, BitVec.getLsbD_xor, BitVec.getLsbD_shiftLeft, BitVec.getLsbD_shiftLeft, BitVec.getLsbD_allOnes, BitVec.testBit_toNat, BitVec.testBit_toNat]
  have e15 : ∀ t : Nat, (15#64).getLsbD t = decide (t < 4) := fun t => f15 t
  rw [e15]
  have hF : ∀ t : Nat, 4 ≤ t → f.getLsbD t = false := fun t ht => by
    rw [← BitVec.testBit_toNat]
    exact Nat.testBit_lt_two_pow (Nat.lt_of_lt_of_le hf (Nat.pow_le_pow_right (by decide) ht : 2 ^ 4 ≤ 2 ^ t))
  by_cases c0 : i < 64
  · by_cases c1 : i < k
    · simp [c0, c1]
    · by_cases c2 : i < k + 4
      · have : i - k < 4 := by omega
        simp [c0, c1, c2, this]
      · have h4 : ¬ i - k < 4 := by omega
        simp [c0, c1, c2, h4, hF (i - k) (by omega)]
  · have hw : w.getLsbD i = false := BitVec.getLsbD_of_ge _ _ (by omega)
    simp [c0, hw, show ¬ i < k by omega, show ¬ i < k + 4 by omega]
/-- a figure put into its place -/
def nibP (w j f : Int) : Int := w / 16 ^ (j + 1).toNat * 16 ^ (j + 1).toNat + (f * 16 ^ j.toNat + w % 16 ^ j.toNat)
theorem nib_put {w j f : Int} (hw : 0 ≤ w ∧ w < 4503599627370496) (hj : 0 ≤ j ∧ j ≤ 12) (hf : 0 ≤ f ∧ f < 16) : flor (fland w (flxor (flshl 15 (4 * j)) (-1))) (flshl f (4 * j)) = nibP w j f ∧ 0 ≤ nibP w j f ∧ nibP w j f < 4503599627370496 := by
  have h1 := L_bv w
  have h2 := L_bv f
  have key : ∀ k : Nat, k ≤ 48 → flor (fland w (flxor (flshl 15 (4 * j)) (-1))) (flshl f (4 * j)) = (((Int64.ofInt w).toBitVec &&& ((15#64 <<< k) ^^^ (BitVec.allOnes 64))) ||| ((Int64.ofInt f).toBitVec <<< k)).toInt → (16 : Int) ^ j.toNat = ((2 ^ k : Nat) : Int) → (16 : Int) ^ (j + 1).toNat = ((2 ^ (k + 4) : Nat) : Int) → flor (fland w (flxor (flshl 15 (4 * j)) (-1))) (flshl f (4 * j)) = nibP w j f ∧ 0 ≤ nibP w j f ∧ nibP w j f < 4503599627370496 := by
    intro k hk e e1 e2
    have hb := bv_put (Int64.ofInt w).toBitVec (Int64.ofInt f).toBitVec k (by omega) (by omega)
    generalize (Int64.ofInt w).toBitVec = W at *
    generalize (Int64.ofInt f).toBitVec = F at *
    have eW : ((W.toNat : Nat) : Int) = w := by omega
    have eF : ((F.toNat : Nat) : Int) = f := by omega
    have e3 : nibP w j f = ((W.toNat / 2 ^ (k + 4) * 2 ^ (k + 4) + (F.toNat * 2 ^ k + W.toNat % 2 ^ k) : Nat) : Int) := by
      unfold nibP
      rw [e1, e2, ← eW, ← eF]
      push_cast
      rfl
    have hp : F.toNat * 2 ^ k ≤ 15 * 2 ^ k := Nat.mul_le_mul_right _ (by omega)
    have hm : W.toNat % 2 ^ k < 2 ^ k := Nat.mod_lt _ (Nat.two_pow_pos k)
    have hp4 : 2 ^ (k + 4) = 16 * 2 ^ k := by rw [Nat.pow_add]; omega
    have hlim : W.toNat / 2 ^ (k + 4) * 2 ^ (k + 4) + (F.toNat * 2 ^ k + W.toNat % 2 ^ k) < 4503599627370496 := by
      have q1 : W.toNat / 2 ^ (k + 4) < 2 ^ (52 - (k + 4)) := by
        rw [Nat.div_lt_iff_lt_mul (Nat.two_pow_pos _), ← Nat.pow_add, show 52 - (k + 4) + (k + 4) = 52 by omega]
        show W.toNat < 4503599627370496
        omega
      have q2 : (W.toNat / 2 ^ (k + 4) + 1) * 2 ^ (k + 4) ≤ 2 ^ (52 - (k + 4)) * 2 ^ (k + 4) := Nat.mul_le_mul_right _ q1
      rw [← Nat.pow_add, show 52 - (k + 4) + (k + 4) = 52 by omega, Nat.add_mul, Nat.one_mul] at q2
      have q3 : (2 : Nat) ^ 52 = 4503599627370496 := by decide
      omega
    rw [e, BitVec.toInt_eq_toNat_of_lt (by rw [hb]; omega), hb, ← e3]
    refine ⟨rfl, ?_, ?_⟩ <;> rw [e3] <;> omega
  rcases (show j = 0 ∨ j = 1 ∨ j = 2 ∨ j = 3 ∨ j = 4 ∨ j = 5 ∨ j = 6 ∨ j = 7 ∨ j = 8 ∨ j = 9 ∨ j = 10 ∨ j = 11 ∨ j = 12 by omega) with rfl | rfl | rfl | rfl | rfl | rfl | rfl | rfl | rfl | rfl | rfl | rfl | rfl
  · exact key 0 (by decide) (by unfold flor fland flxor flshl; simp only [Int64.ofInt_toInt]; rfl) (by decide) (by decide)
  · exact key 4 (by decide) (by unfold flor fland flxor flshl; simp only [Int64.ofInt_toInt]; rfl) (by decide) (by decide)
  · exact key 8 (by decide) (by unfold flor fland flxor flshl; simp only [Int64.ofInt_toInt]; rfl) (by decide) (by decide)
  · exact key 12 (by decide) (by unfold flor fland flxor flshl; simp only [Int64.ofInt_toInt]; rfl) (by decide) (by decide)
  · exact key 16 (by decide) (by unfold flor fland flxor flshl; simp only [Int64.ofInt_toInt]; rfl) (by decide) (by decide)
  · exact key 20 (by decide) (by unfold flor fland flxor flshl; simp only [Int64.ofInt_toInt]; rfl) (by decide) (by decide)
  · exact key 24 (by decide) (by unfold flor fland flxor flshl; simp only [Int64.ofInt_toInt]; rfl) (by decide) (by decide)
  · exact key 28 (by decide) (by unfold flor fland flxor flshl; simp only [Int64.ofInt_toInt]; rfl) (by decide) (by decide)
  · exact key 32 (by decide) (by unfold flor fland flxor flshl; simp only [Int64.ofInt_toInt]; rfl) (by decide) (by decide)
  · exact key 36 (by decide) (by unfold flor fland flxor flshl; simp only [Int64.ofInt_toInt]; rfl) (by decide) (by decide)
  · exact key 40 (by decide) (by unfold flor fland flxor flshl; simp only [Int64.ofInt_toInt]; rfl) (by decide) (by decide)
  · exact key 44 (by decide) (by unfold flor fland flxor flshl; simp only [Int64.ofInt_toInt]; rfl) (by decide) (by decide)
  · exact key 48 (by decide) (by unfold flor fland flxor flshl; simp only [Int64.ofInt_toInt]; rfl) (by decide) (by decide)
/-- the figure of a place, one more; none -/
def nibG (w j : Int) : Int := w / 16 ^ j.toNat % 16
theorem pw16 (k : Nat) : (16 : Int) ^ k = ((2 ^ (4 * k) : Nat) : Int) := by
  rw [Nat.pow_mul]
  push_cast
  rfl
theorem nibG_nat (W : Nat) (k : Nat) : nibG (W : Int) (k : Int) = ((W / 2 ^ (4 * k) % 16 : Nat) : Int) := by
  unfold nibG
  rw [Int.toNat_natCast, pw16]
  push_cast
  rfl
theorem nat_nib (W k i : Nat) (hi : i < 4) : (W / 2 ^ k % 16).testBit i = W.testBit (k + i) := by
  rw [show 16 = 2 ^ 4 by decide, Nat.testBit_mod_two_pow, Nat.testBit_div_two_pow]
  simp [hi, Nat.add_comm]
theorem nibG_put {w j f i : Int} (hw : 0 ≤ w ∧ w < 4503599627370496) (hj : 0 ≤ j ∧ j ≤ 12) (hi : 0 ≤ i ∧ i ≤ 12) (hf : 0 ≤ f ∧ f < 16) : nibG (nibP w j f) i = if i = j then f else nibG w i := by
  obtain ⟨W, rfl⟩ := Int.eq_ofNat_of_zero_le hw.1
  obtain ⟨J, rfl⟩ := Int.eq_ofNat_of_zero_le hj.1
  obtain ⟨I, rfl⟩ := Int.eq_ofNat_of_zero_le hi.1
  obtain ⟨F, rfl⟩ := Int.eq_ofNat_of_zero_le hf.1
  have e : nibP (W : Int) (J : Int) (F : Int) = ((W / 2 ^ (4 * J + 4) * 2 ^ (4 * J + 4) + (F * 2 ^ (4 * J) + W % 2 ^ (4 * J)) : Nat) : Int) := by
    unfold nibP
    rw [show ((J : Int) + 1).toNat = J + 1 by omega, Int.toNat_natCast, pw16, pw16, show 4 * (J + 1) = 4 * J + 4 by omega]
    push_cast
    rfl
  rw [e, nibG_nat, nibG_nat]
  have hF : F < 16 := by omega
  have key : ((W / 2 ^ (4 * J + 4) * 2 ^ (4 * J + 4) + (F * 2 ^ (4 * J) + W % 2 ^ (4 * J))) / 2 ^ (4 * I) % 16) = if I = J then F else W / 2 ^ (4 * I) % 16 := by
    apply Nat.eq_of_testBit_eq
    intro t
    by_cases ht : t < 4
    · rw [nat_nib _ _ _ ht, nat_put _ _ _ _ hF]
      by_cases hIJ : I = J
      · rw [if_pos hIJ, hIJ, if_neg (by omega), if_pos (by omega)]
        congr 1
        omega
      · rw [if_neg hIJ, nat_nib _ _ _ ht]
        rcases Nat.lt_or_ge I J with h | h
        · rw [if_pos (by omega)]
        · rw [if_neg (by omega), if_neg (by omega)]
    · have z16 : ∀ n : Nat, n < 16 → n.testBit t = false := fun n hn => Nat.testBit_lt_two_pow (Nat.lt_of_lt_of_le hn (Nat.pow_le_pow_right (by decide) (by omega : 4 ≤ t) : 2 ^ 4 ≤ 2 ^ t))
      rw [z16 _ (Nat.mod_lt _ (by decide))]
      split
      · exact (z16 _ hF).symm
      · exact (z16 _ (Nat.mod_lt _ (by decide))).symm
  rw [key]
  by_cases hIJ : I = J
  · rw [if_pos hIJ, if_pos (by omega)]
  · rw [if_neg hIJ, if_neg (by omega)]
theorem nibG_bd {w j : Int} : 0 ≤ nibG w j ∧ nibG w j < 16 := by
  unfold nibG
  omega
/-- the counts of figures told -/
def pcJ (w : Int) : Nat → Int
  | 0 => 0
  | j + 1 => pcJ w j + (if nibG w j = 0 then 0 else 1)
def pcR (row : Int → Int) : Nat → Int
  | 0 => 0
  | n + 1 => pcR row n + pcJ (row n) 13
theorem pcJ_bd (w : Int) : ∀ k : Nat, 0 ≤ pcJ w k ∧ pcJ w k ≤ k := by
  intro k
  induction k with
  | zero => simp [pcJ]
  | succ k ih => unfold pcJ; split <;> omega
theorem pcR_bd (row : Int → Int) : ∀ k : Nat, 0 ≤ pcR row k ∧ pcR row k ≤ 13 * k := by
  intro k
  induction k with
  | zero => simp [pcR]
  | succ k ih => unfold pcR; have := pcJ_bd (row k) 13; omega
/-- the number with its figures told -/
def ppN (w a : Int) : Nat → Int
  | 0 => a
  | j + 1 => if nibG w j = 0 then ppN w a j else ppN w a j + (nibG w j - 1 - ppN w a j / 10 ^ j % 10) * 10 ^ j
theorem ppN_bd {w a : Int} (ha : 0 ≤ a) (hw : ∀ j : Int, nibG w j ≤ 10) : ∀ k : Nat, 0 ≤ ppN w a k ∧ ppN w a k ≤ a + 10 ^ k - 1 := by
  intro k
  induction k with
  | zero => simp [ppN]; omega
  | succ k ih =>
    unfold ppN
    have hp : (0 : Int) < 10 ^ k := Int.pow_pos (by decide)
    rw [Int.pow_succ]
    split
    · omega
    · have h1 := nibG_bd (w := w) (j := k)
      have h2 := hw k
      generalize ppN w a k = v at *
      generalize (10 : Int) ^ k = t at *
      have h3 := ediv_mul_bd v t (by omega)
      have h4 : 0 ≤ v / t := Int.ediv_nonneg ih.1 (by omega)
      have h5 : v / t % 10 * t ≤ v / t * t := Int.mul_le_mul_of_nonneg_right (by omega) (by omega)
      have h6 := Int.mul_nonneg (show 0 ≤ v / t % 10 by omega) (show 0 ≤ t by omega)
      have h7 := Int.mul_nonneg (show 0 ≤ nibG w k - 1 by omega) (show 0 ≤ t by omega)
      have h8 : (nibG w k - 1) * t ≤ 9 * t := Int.mul_le_mul_of_nonneg_right (by omega) (by omega)
      rw [Int.sub_mul]
      omega
theorem pw13 {j : Int} (h : 0 ≤ j ∧ j ≤ 13) : 1 ≤ (10 : Int) ^ j.toNat ∧ (10 : Int) ^ j.toNat ≤ 10000000000000 := by
  rcases (show j = 13 ∨ (0 ≤ j ∧ j ≤ 12) by omega) with rfl | q
  · decide
  · have := ten_cases12 q
    omega
theorem absV_b2 {x : Int} (h : -9000000000000000000 ≤ x ∧ x ≤ 9000000000000000000) : 0 ≤ absV x ∧ absV x ≤ 9000000000000000000 := by
  unfold absV
  split <;> omega
set_option maxHeartbeats 4000000 in
set_option maxRecDepth 100000 in
theorem c_X3_pressedAt {l : Launch} {g : GP} (hG : GH g) {kd : Int → Nat} {ln : Int → Int} {mem : Int → Int → Int} {sz : Nat} (p : Int) (n j : Int) (hkp : kd p = 5) (hp0 : 0 ≤ p) (hk18 : kd (mem p 18) = 21 ∧ ln (mem p 18) = 40 ∧ 3 ≤ mem p 18) (hn1 : 0 ≤ n ∧ n < mem p 2 ∧ mem p 2 ≤ 40) (hj : 0 ≤ j ∧ j ≤ 12) (hw : 0 ≤ mem (mem p 18) n ∧ mem (mem p 18) n < 4503599627370496) : MT l g yX3_pressedAt cX3_pressedAt 3 (some .long) 2 0 0 [(2, p), (0, n), (0, j)] kd ln mem sz (pV (1, nibG (mem (mem p 18) n) j) kd ln mem sz) := by
  refine MT_of hG (by decide +kernel) (Nat.le_of_ble_eq_true rfl) (fun z hF hr hn => ?_)
  have hka := hk18.1
  refine jblk hF [(.aload_n 0, 1), (.iload_n 1, 1)] (by decide +kernel) (pc' := 2) (lo' := [(0, (2, p)), (1, (0, n)), (2, (0, j))]) (st' := [(0, n), (2, p)]) rfl ?_
  refine jcallV hF (c_X3_hasLine hG p n (by first | assumption | omega) (by omega) (by omega) (by omega)) MW_X3_hasLine 4 (by decide) (by first | assumption | omega) wd_1120 wd_874 wd_875 (by decide +kernel) [] rfl rfl (by decide) (Nat.le_of_ble_eq_true rfl) (by decide) (kB (fun h_1 => ?_) (fun h_1 => absurd (by omega) h_1))
  refine jif_eq hF (off := 20) 25 (by decide +kernel) (by decide) (by decide) (fun h => absurd h (by decide)) (fun _ => ?_)
  refine jblk hF [(.aload_n 0, 1)] (by decide +kernel) (pc' := 9) (lo' := [(0, (2, p)), (1, (0, n)), (2, (0, j))]) (st' := [(2, p)]) rfl ?_
  refine jget hF 4 18 2 18 rfl (by decide) (by decide) rfl wd_728 (by decide +kernel) (by first | assumption | omega) ?_
  refine jblk hF [(.iload_n 1, 1)] (by decide +kernel) (pc' := 13) (lo' := [(0, (2, p)), (1, (0, n)), (2, (0, j))]) (st' := [(0, n), (2, mem p 18)]) rfl ?_
  refine jlald hF (by decide +kernel) (by first | assumption | omega) (by omega) (by omega) ?_
  refine jblk hF [(.iconst 4, 1), (.iload_n 2, 1), (.imul, 1)] (by decide +kernel) (pc' := 17) (lo' := [(0, (2, p)), (1, (0, n)), (2, (0, j))]) (st' := [(0, 4 * j), (1, mem (mem p 18) n)]) rfl ?_
  refine jlushr hF (by decide +kernel) ?_
  refine jldc2 hF 15 (cst_l wd_1121 (by decide)) (by decide +kernel) ?_
  refine jblk hF [(.land, 1)] (by decide +kernel) (pc' := 22) (lo' := [(0, (2, p)), (1, (0, n)), (2, (0, j))]) (st' := [(1, fland (flushr (mem (mem p 18) n) (4 * j)) 15)]) rfl ?_
  refine jgoto hF (off := 4) 26 (by decide +kernel) (by decide) ?_
  refine jlret hF hr (by decide +kernel) ?_
  exact lV (by (rw [fland_15, nib_sh (by omega) hj]; rfl))
set_option maxHeartbeats 4000000 in
set_option maxRecDepth 100000 in
theorem c_X3_isPressed {l : Launch} {g : GP} (hG : GH g) {kd : Int → Nat} {ln : Int → Int} {mem : Int → Int → Int} {sz : Nat} (p : Int) (n j : Int) (hkp : kd p = 5) (hp0 : 0 ≤ p) (hk18 : kd (mem p 18) = 21 ∧ ln (mem p 18) = 40 ∧ 3 ≤ mem p 18) (hn1 : 0 ≤ n ∧ n < mem p 2 ∧ mem p 2 ≤ 40) (hj : 0 ≤ j ∧ j ≤ 12) (hw : 0 ≤ mem (mem p 18) n ∧ mem (mem p 18) n < 4503599627370496) : MT l g yX3_isPressed cX3_isPressed 3 (some .boolean) 3 0 0 [(2, p), (0, n), (0, j)] kd ln mem sz (pB (nibG (mem (mem p 18) n) j ≠ 0) kd ln mem sz) := by
  refine MT_of hG (by decide +kernel) (Nat.le_of_ble_eq_true rfl) (fun z hF hr hn => ?_)
  have hka := hk18.1
  have hnb := nibG_bd (w := mem (mem p 18) n) (j := j)
  refine jblk hF [(.aload_n 0, 1), (.iload_n 1, 1), (.iload_n 2, 1)] (by decide +kernel) (pc' := 3) (lo' := [(0, (2, p)), (1, (0, n)), (2, (0, j))]) (st' := [(0, j), (0, n), (2, p)]) rfl ?_
  refine jcallV hF (c_X3_pressedAt hG p n j (by first | assumption | omega) (by omega) (by first | assumption | omega) (by omega) (by omega) (by omega)) MW_X3_pressedAt 4 (by decide) (by first | assumption | omega) wd_1116 wd_1118 wd_p36 (by decide +kernel) [] rfl rfl (by decide) (Nat.le_of_ble_eq_true rfl) (by decide) (kV ?_)
  refine jlconst hF (n := 0) 0 rfl (by decide +kernel) ?_
  refine jlcmp_eq hF (off := 7) 15 (by decide +kernel) (by decide +kernel) (by decide) (by omega) (by decide) (fun h_1 => ?_) (fun h_1 => ?_)
  · refine jblk hF [(.iconst 0, 1)] (by decide +kernel) (pc' := 16) (lo' := [(0, (2, p)), (1, (0, n)), (2, (0, j))]) (st' := [(0, 0)]) rfl ?_
    refine jzret hF hr (by omega) (by decide +kernel) ?_
    exact lB0 (by omega)
  · refine jblk hF [(.iconst 1, 1)] (by decide +kernel) (pc' := 12) (lo' := [(0, (2, p)), (1, (0, n)), (2, (0, j))]) (st' := [(0, 1)]) rfl ?_
    refine jgoto hF (off := 4) 16 (by decide +kernel) (by decide) ?_
    refine jzret hF hr (by omega) (by decide +kernel) ?_
    exact lB1 (by omega)
set_option maxHeartbeats 4000000 in
set_option maxRecDepth 100000 in
theorem c_X3_pressFigure {l : Launch} {g : GP} (hG : GH g) {kd : Int → Nat} {ln : Int → Int} {mem : Int → Int → Int} {sz : Nat} (p : Int) (n j f : Int) (hkp : kd p = 5) (hp0 : 0 ≤ p) (hk18 : kd (mem p 18) = 21 ∧ ln (mem p 18) = 40 ∧ 3 ≤ mem p 18) (hn1 : 0 ≤ n ∧ n < mem p 2 ∧ mem p 2 ≤ 40) (hj : 0 ≤ j ∧ j ≤ 12) (hw : 0 ≤ mem (mem p 18) n ∧ mem (mem p 18) n < 4503599627370496) (hf : 0 ≤ f ∧ f ≤ 9) : MT l g yX3_pressFigure cX3_pressFigure 6 none 2 0 0 [(2, p), (0, n), (0, j), (0, f)] kd ln mem sz (pMV (fun mem' => (mem' = set2 mem (mem p 18) n (nibP (mem (mem p 18) n) j (f + 1)))) kd ln sz) := by
  refine MT_of hG (by decide +kernel) (Nat.le_of_ble_eq_true rfl) (fun z hF hr hn => ?_)
  have hka := hk18.1
  refine jblk hF [(.aload_n 0, 1), (.iload_n 1, 1)] (by decide +kernel) (pc' := 2) (lo' := [(0, (2, p)), (1, (0, n)), (2, (0, j)), (3, (0, f))]) (st' := [(0, n), (2, p)]) rfl ?_
  refine jcallV hF (c_X3_hasLine hG p n (by first | assumption | omega) (by omega) (by omega) (by omega)) MW_X3_hasLine 4 (by decide) (by first | assumption | omega) wd_1120 wd_874 wd_875 (by decide +kernel) [] rfl rfl (by decide) (Nat.le_of_ble_eq_true rfl) (by decide) (kB (fun h_1 => ?_) (fun h_1 => absurd (by omega) h_1))
  refine jif_ne hF (off := 4) 9 (by decide +kernel) (by decide) (by decide) (fun _ => ?_) (fun h => absurd h (by decide))
  refine jblk hF [(.aload_n 0, 1)] (by decide +kernel) (pc' := 10) (lo' := [(0, (2, p)), (1, (0, n)), (2, (0, j)), (3, (0, f))]) (st' := [(2, p)]) rfl ?_
  refine jget hF 4 18 2 18 rfl (by decide) (by decide) rfl wd_728 (by decide +kernel) (by first | assumption | omega) ?_
  refine jblk hF [(.iload_n 1, 1)] (by decide +kernel) (pc' := 14) (lo' := [(0, (2, p)), (1, (0, n)), (2, (0, j)), (3, (0, f))]) (st' := [(0, n), (2, mem p 18)]) rfl ?_
  refine jlald hF (by decide +kernel) (by first | assumption | omega) (by omega) (by omega) ?_
  refine jldc2 hF 15 (cst_l wd_1121 (by decide)) (by decide +kernel) ?_
  refine jblk hF [(.iconst 4, 1), (.iload_n 2, 1), (.imul, 1)] (by decide +kernel) (pc' := 21) (lo' := [(0, (2, p)), (1, (0, n)), (2, (0, j)), (3, (0, f))]) (st' := [(0, 4 * j), (1, 15), (1, mem (mem p 18) n)]) rfl ?_
  refine jlshl hF (by decide +kernel) ?_
  refine jldc2 hF (-1) (cst_l wd_1148 (by decide)) (by decide +kernel) ?_
  refine jblk hF [(.lxor, 1), (.land, 1), (.lstore 4, 2), (.aload_n 0, 1)] (by decide +kernel) (pc' := 30) (lo' := [(4, (1, fland (mem (mem p 18) n) (flxor (flshl 15 (4 * j)) (-1)))), (0, (2, p)), (1, (0, n)), (2, (0, j)), (3, (0, f))]) (st' := [(2, p)]) rfl ?_
  refine jget hF 4 18 2 18 rfl (by decide) (by decide) rfl wd_728 (by decide +kernel) (by first | assumption | omega) ?_
  refine jblk hF [(.iload_n 1, 1), (.lload 4, 2), (.iload_n 3, 1), (.iconst 1, 1), (.iadd, 1)] (by decide +kernel) (pc' := 39) (lo' := [(4, (1, fland (mem (mem p 18) n) (flxor (flshl 15 (4 * j)) (-1)))), (0, (2, p)), (1, (0, n)), (2, (0, j)), (3, (0, f))]) (st' := [(0, f + 1), (1, fland (mem (mem p 18) n) (flxor (flshl 15 (4 * j)) (-1))), (0, n), (2, mem p 18)]) rfl ?_
  refine ji2l hF (by decide +kernel) (by omega) ?_
  refine jblk hF [(.iconst 4, 1), (.iload_n 2, 1), (.imul, 1)] (by decide +kernel) (pc' := 43) (lo' := [(4, (1, fland (mem (mem p 18) n) (flxor (flshl 15 (4 * j)) (-1)))), (0, (2, p)), (1, (0, n)), (2, (0, j)), (3, (0, f))]) (st' := [(0, 4 * j), (1, f + 1), (1, fland (mem (mem p 18) n) (flxor (flshl 15 (4 * j)) (-1))), (0, n), (2, mem p 18)]) rfl ?_
  refine jlshl hF (by decide +kernel) ?_
  refine jblk hF [(.lor, 1)] (by decide +kernel) (pc' := 45) (lo' := [(4, (1, fland (mem (mem p 18) n) (flxor (flshl 15 (4 * j)) (-1)))), (0, (2, p)), (1, (0, n)), (2, (0, j)), (3, (0, f))]) (st' := [(1, flor (fland (mem (mem p 18) n) (flxor (flshl 15 (4 * j)) (-1))) (flshl (f + 1) (4 * j))), (0, n), (2, mem p 18)]) rfl ?_
  refine jlast hF (by decide +kernel) (by omega) (by first | assumption | omega) (by omega) (by omega) ?_
  refine jvret hF hr (by decide +kernel) ?_
  exact lMV (by (rw [(nib_put hw hj (by omega)).1]))
set_option maxHeartbeats 4000000 in
set_option maxRecDepth 100000 in
theorem c_X3_pressSlips {l : Launch} {g : GP} (hG : GH g) {kd : Int → Nat} {ln : Int → Int} {mem : Int → Int → Int} {sz : Nat} (p : Int) (hkp : kd p = 5) (hp0 : 0 ≤ p) (hk18 : kd (mem p 18) = 21 ∧ ln (mem p 18) = 40 ∧ 3 ≤ mem p 18) (hwa : ∀ i : Int, 0 ≤ i → i < 40 → 0 ≤ mem (mem p 18) i ∧ mem (mem p 18) i < 4503599627370496) (h2 : 0 ≤ mem p 2 ∧ mem p 2 ≤ 40) : MT l g yX3_pressSlips cX3_pressSlips 4 (some .int) 4 0 0 [(2, p)] kd ln mem sz (pV (0, pcR (mem (mem p 18)) (mem p 2).toNat) kd ln mem sz) := by
  refine MT_of hG (by decide +kernel) (Nat.le_of_ble_eq_true rfl) (fun z hF hr hn => ?_)
  have hka := hk18.1
  refine jblk hF [(.iconst 0, 1), (.istore_n 1, 1), (.iconst 0, 1), (.istore_n 2, 1)] (by decide +kernel) (pc' := 4) (lo' := [(2, (0, 0)), (1, (0, 0)), (0, (2, p))]) (st' := []) rfl ?_
  have L_2 : ∀ (fu_3 : Nat) (a : Int) (n : Int), (0 ≤ n ∧ n ≤ mem p 2) → (a = pcR (mem (mem p 18)) n.toNat) →  (mem p 2 - n).toNat < fu_3 → J z g 4 0 0 (QM z g 0 0 (pV (0, pcR (mem (mem p 18)) (mem p 2).toNat) kd ln mem sz)) 4 [(0, (2, p)), (1, (0, a)), (2, (0, n))] [] kd ln mem sz := by
    intro fu_3
    induction fu_3 with
    | zero => intro a n _ _ hm; omega
    | succ fu_3 ih_1 =>
      intro a n hnn ha hm
      have hb1 := pcR_bd (mem (mem p 18)) n.toNat
      refine jblk hF [(.iload_n 2, 1), (.aload_n 0, 1)] (by decide +kernel) (pc' := 6) (lo' := [(0, (2, p)), (1, (0, a)), (2, (0, n))]) (st' := [(2, p), (0, n)]) rfl ?_
      refine jget hF 4 2 0 2 rfl (by decide) (by decide) rfl wd_696 (by decide +kernel) (by first | assumption | omega) ?_
      refine jicmp_ge hF (off := 40) 49 (by decide +kernel) (by decide) (by omega) (by omega) (fun h_4 => ?_) (fun h_4 => ?_)
      · refine jblk hF [(.iload_n 1, 1)] (by decide +kernel) (pc' := 50) (lo' := [(0, (2, p)), (1, (0, a)), (2, (0, n))]) (st' := [(0, a)]) rfl ?_
        refine jiret hF hr (by decide +kernel) ?_
        exact lV (by (rw [ha, show n = mem p 2 by omega]))
      · refine jblk hF [(.iconst 0, 1), (.istore_n 3, 1)] (by decide +kernel) (pc' := 14) (lo' := [(3, (0, 0)), (0, (2, p)), (1, (0, a)), (2, (0, n))]) (st' := []) rfl ?_
        have L_6 : ∀ (fu_7 : Nat) (c : Int) (j : Int), (0 ≤ j ∧ j ≤ 13) → (c = pcR (mem (mem p 18)) n.toNat + pcJ (mem (mem p 18) n) j.toNat) →  (13 - j).toNat < fu_7 → J z g 4 0 0 (QM z g 0 0 (pV (0, pcR (mem (mem p 18)) (mem p 2).toNat) kd ln mem sz)) 14 [(0, (2, p)), (1, (0, c)), (2, (0, n)), (3, (0, j))] [] kd ln mem sz := by
          intro fu_7
          induction fu_7 with
          | zero => intro c j _ _ hm; omega
          | succ fu_7 ih_5 =>
            intro c j hjj ha2 hm2
            have hb2 := pcJ_bd (mem (mem p 18) n) j.toNat
            have hwn := hwa n (by omega) (by omega)
            refine jblk hF [(.iload_n 3, 1), (.bipush 13, 2)] (by decide +kernel) (pc' := 17) (lo' := [(0, (2, p)), (1, (0, c)), (2, (0, n)), (3, (0, j))]) (st' := [(0, 13), (0, j)]) rfl ?_
            refine jicmp_ge hF (off := 26) 43 (by decide +kernel) (by decide) (by omega) (by decide) (fun h_8 => ?_) (fun h_8 => ?_)
            · refine jblk hF [(.iinc 2 1, 3)] (by decide +kernel) (pc' := 46) (lo' := [(2, (0, n + 1)), (0, (2, p)), (1, (0, c)), (3, (0, j))]) (st' := []) rfl ?_
              refine jgoto hF (off := (-42)) 4 (by decide +kernel) (by decide) ?_
              refine jsub [1, 2, 0] rfl ?_
              refine ih_1 c (n + 1) ?_ ?_ ?_
              · omega
              · (rw [ha2, show (n + 1).toNat = n.toNat + 1 by omega, pcR, show ((n.toNat : Nat) : Int) = n by omega, show j.toNat = 13 by omega])
              · omega
            · refine jblk hF [(.iload_n 1, 1), (.aload_n 0, 1), (.iload_n 2, 1), (.iload_n 3, 1)] (by decide +kernel) (pc' := 24) (lo' := [(0, (2, p)), (1, (0, c)), (2, (0, n)), (3, (0, j))]) (st' := [(0, j), (0, n), (2, p), (0, c)]) rfl ?_
              refine jcallV hF (c_X3_isPressed hG p n j (by first | assumption | omega) (by omega) (by first | assumption | omega) (by omega) (by omega) (by omega)) MW_X3_isPressed 4 (by decide) (by first | assumption | omega) wd_1112 wd_1113 wd_1114 (by decide +kernel) [(0, c)] rfl rfl (by decide) (Nat.le_of_ble_eq_true rfl) (by decide) (kB (fun h_9 => ?_) (fun h_9 => ?_))
              · refine jif_eq hF (off := 7) 34 (by decide +kernel) (by decide) (by decide) (fun h => absurd h (by decide)) (fun _ => ?_)
                refine jblk hF [(.iconst 1, 1)] (by decide +kernel) (pc' := 31) (lo' := [(0, (2, p)), (1, (0, c)), (2, (0, n)), (3, (0, j))]) (st' := [(0, 1), (0, c)]) rfl ?_
                refine jgoto hF (off := 4) 35 (by decide +kernel) (by decide) ?_
                refine jblk hF [(.iadd, 1), (.istore_n 1, 1), (.iinc 3 1, 3)] (by decide +kernel) (pc' := 40) (lo' := [(3, (0, j + 1)), (1, (0, c + 1)), (0, (2, p)), (2, (0, n))]) (st' := []) rfl ?_
                refine jgoto hF (off := (-26)) 14 (by decide +kernel) (by decide) ?_
                refine jsub [2, 1, 3, 0] rfl ?_
                refine ih_5 (c + 1) (j + 1) ?_ ?_ ?_
                · omega
                · (rw [show (j + 1).toNat = j.toNat + 1 by omega, pcJ, show ((j.toNat : Nat) : Int) = j by omega]; split <;> omega)
                · omega
              · refine jif_eq hF (off := 7) 34 (by decide +kernel) (by decide) (by decide) (fun _ => ?_) (fun h => absurd h (by decide))
                refine jblk hF [(.iconst 0, 1), (.iadd, 1), (.istore_n 1, 1), (.iinc 3 1, 3)] (by decide +kernel) (pc' := 40) (lo' := [(3, (0, j + 1)), (1, (0, c + 0)), (0, (2, p)), (2, (0, n))]) (st' := []) rfl ?_
                refine jgoto hF (off := (-26)) 14 (by decide +kernel) (by decide) ?_
                refine jsub [2, 1, 3, 0] rfl ?_
                refine ih_5 (c + 0) (j + 1) ?_ ?_ ?_
                · omega
                · (rw [show (j + 1).toNat = j.toNat + 1 by omega, pcJ, show ((j.toNat : Nat) : Int) = j by omega]; split <;> omega)
                · omega
        refine jsub [1, 2, 3, 0] rfl ?_
        refine L_6 _ a 0 ?_ ?_ (Nat.lt_succ_self _)
        · omega
        · (rw [ha]; show pcR _ _ = pcR _ _ + 0; omega)
  refine jsub [2, 1, 0] rfl ?_
  refine L_2 _ 0 0 ?_ ?_ (Nat.lt_succ_self _)
  · omega
  · rfl
set_option maxHeartbeats 4000000 in
set_option maxRecDepth 100000 in
theorem c_X3_printedOf {l : Launch} {g : GP} (hG : GH g) {kd : Int → Nat} {ln : Int → Int} {mem : Int → Int → Int} {sz : Nat} (hK : HK kd ln) (hR : HR mem) (p : Int) (n : Int) (hTN : TNS g) (hkp : kd p = 5) (hp0 : 0 ≤ p) (hk18 : kd (mem p 18) = 21 ∧ ln (mem p 18) = 40 ∧ 3 ≤ mem p 18) (hk17 : 0 ≤ mem p 17 → kd (mem p 17) = 21 ∧ ln (mem p 17) = 40 ∧ 3 ≤ mem p 17) (hwa : ∀ i : Int, 0 ≤ i → i < 40 → 0 ≤ mem (mem p 18) i ∧ mem (mem p 18) i < 4503599627370496) (h2 : 0 ≤ mem p 2 ∧ mem p 2 ≤ 40) (hpl : ∀ i : Int, 0 ≤ i → i < 40 → -9000000000000000000 ≤ mem (mem p 17) i ∧ mem (mem p 17) i ≤ 9000000000000000000) (hni : ∀ i j : Int, 0 ≤ i → i < 40 → nibG (mem (mem p 18) i) j ≤ 10) (h_n : InI n) : MT l g yX3_printedOf cX3_printedOf 7 (some .long) 4 0 0 [(2, p), (0, n)] kd ln mem sz (pV (1, (if 0 ≤ mem p 17 ∧ 0 ≤ n ∧ n ≤ mem p 2 - 1 then (if mem (mem p 17) n < 0 then -(ppN (mem (mem p 18) n) (absV (mem (mem p 17) n)) 13) else ppN (mem (mem p 18) n) (absV (mem (mem p 17) n)) 13) else -1)) kd ln mem sz) := by
  refine MT_of hG (by decide +kernel) (Nat.le_of_ble_eq_true rfl) (fun z hF hr hn => ?_)
  refine jblk hF [(.aload_n 0, 1)] (by decide +kernel) (pc' := 1) (lo' := [(0, (2, p)), (1, (0, n))]) (st' := [(2, p)]) rfl ?_
  refine jget hF 4 17 2 17 rfl (by decide) (by decide) rfl wd_727 (by decide +kernel) (by first | assumption | omega) ?_
  refine jnull hF (off := 11) 15 (by decide +kernel) (by decide) (fun h_1 => ?_) (fun h_1 => ?_)
  · have hd0 : ¬ (0 ≤ mem p 17 ∧ 0 ≤ n ∧ n ≤ mem p 2 - 1) := by omega
    refine jldc2 hF (-1) (cst_l wd_1148 (by decide)) (by decide +kernel) ?_
    refine jlret hF hr (by decide +kernel) ?_
    exact lV (by exact (if_neg hd0).symm)
  · refine jblk hF [(.aload_n 0, 1), (.iload_n 1, 1)] (by decide +kernel) (pc' := 9) (lo' := [(0, (2, p)), (1, (0, n))]) (st' := [(0, n), (2, p)]) rfl ?_
    refine jcallV hF (c_X3_hasLine hG p n (by first | assumption | omega) (by omega) (by omega) (by omega)) MW_X3_hasLine 4 (by decide) (by first | assumption | omega) wd_1120 wd_874 wd_875 (by decide +kernel) [] rfl rfl (by decide) (Nat.le_of_ble_eq_true rfl) (by decide) (kB (fun h_2 => ?_) (fun h_2 => ?_))
    · refine jif_ne hF (off := 7) 19 (by decide +kernel) (by decide) (by decide) (fun _ => ?_) (fun h => absurd h (by decide))
      have hkp2 := hk17 (by omega)
      have hkp3 := hkp2.1
      have hkq := hk18.1
      have hpn := hpl n (by omega) (by omega)
      refine jblk hF [(.aload_n 0, 1)] (by decide +kernel) (pc' := 20) (lo' := [(0, (2, p)), (1, (0, n))]) (st' := [(2, p)]) rfl ?_
      refine jget hF 4 17 2 17 rfl (by decide) (by decide) rfl wd_727 (by decide +kernel) (by first | assumption | omega) ?_
      refine jblk hF [(.iload_n 1, 1)] (by decide +kernel) (pc' := 24) (lo' := [(0, (2, p)), (1, (0, n))]) (st' := [(0, n), (2, mem p 17)]) rfl ?_
      refine jlald hF (by decide +kernel) (by first | assumption | omega) (by omega) (by omega) ?_
      refine jcallS hF (c_absW hG (mem (mem p 17) n) (by first | exact wL_in _ | omega)) MW_J9_abs_067f4 wd_1157 wd_979 (by decide +kernel) [] rfl rfl (by decide) (Nat.le_of_ble_eq_true rfl) (by decide) (kV ?_)
      have hf_4 := absV_bd ((mem (mem p 17) n))
      refine jblk hF [(.lstore_n 2, 1), (.iconst 0, 1), (.istore 4, 2)] (by decide +kernel) (pc' := 32) (lo' := [(4, (0, 0)), (2, (1, absV (mem (mem p 17) n))), (0, (2, p)), (1, (0, n))]) (st' := []) rfl ?_
      have L_6 : ∀ (fu_7 : Nat) (v : Int) (j : Int), (0 ≤ j ∧ j ≤ 13) → (v = ppN (mem (mem p 18) n) (absV (mem (mem p 17) n)) j.toNat) →  (13 - j).toNat < fu_7 → J z g 7 0 0 (QM z g 0 0 (pV (1, (if 0 ≤ mem p 17 ∧ 0 ≤ n ∧ n ≤ mem p 2 - 1 then (if mem (mem p 17) n < 0 then -(ppN (mem (mem p 18) n) (absV (mem (mem p 17) n)) 13) else ppN (mem (mem p 18) n) (absV (mem (mem p 17) n)) 13) else -1)) kd ln mem sz)) 32 [(0, (2, p)), (1, (0, n)), (2, (1, v)), (4, (0, j))] [] kd ln mem sz := by
        intro fu_7
        induction fu_7 with
        | zero => intro v j _ _ hm; omega
        | succ fu_7 ih_5 =>
          intro v j hjj hv hm
          have hb := ppN_bd (w := mem (mem p 18) n) (a := absV (mem (mem p 17) n)) (absV_b2 (hpl n (by omega) (by omega))).1 (fun i => hni n i (by omega) (by omega)) j.toNat
          have ha2 := absV_b2 (hpl n (by omega) (by omega))
          have ht := pw13 hjj
          have hvd := ediv_bd v (10 ^ j.toNat) (by omega)
          have hwn := hwa n (by omega) (by omega)
          refine jblk hF [(.iload 4, 2), (.bipush 13, 2)] (by decide +kernel) (pc' := 36) (lo' := [(0, (2, p)), (1, (0, n)), (2, (1, v)), (4, (0, j))]) (st' := [(0, 13), (0, j)]) rfl ?_
          refine jicmp_ge hF (off := 57) 93 (by decide +kernel) (by decide) (by omega) (by decide) (fun h_8 => ?_) (fun h_8 => ?_)
          · rw [show j = 13 by omega] at hv
            refine jblk hF [(.aload_n 0, 1)] (by decide +kernel) (pc' := 94) (lo' := [(0, (2, p)), (1, (0, n)), (2, (1, v)), (4, (0, j))]) (st' := [(2, p)]) rfl ?_
            refine jget hF 4 17 2 17 rfl (by decide) (by decide) rfl wd_727 (by decide +kernel) (by first | assumption | omega) ?_
            refine jblk hF [(.iload_n 1, 1)] (by decide +kernel) (pc' := 98) (lo' := [(0, (2, p)), (1, (0, n)), (2, (1, v)), (4, (0, j))]) (st' := [(0, n), (2, mem p 17)]) rfl ?_
            refine jlald hF (by decide +kernel) (by first | assumption | omega) (by omega) (by omega) ?_
            refine jlconst hF (n := 0) 0 rfl (by decide +kernel) ?_
            refine jlcmp_ge hF (off := 8) 109 (by decide +kernel) (by decide +kernel) (by decide) (by omega) (by decide) (fun h_9 => ?_) (fun h_9 => ?_)
            · refine jblk hF [(.lload_n 2, 1)] (by decide +kernel) (pc' := 110) (lo' := [(0, (2, p)), (1, (0, n)), (2, (1, v)), (4, (0, j))]) (st' := [(1, v)]) rfl ?_
              refine jlret hF hr (by decide +kernel) ?_
              exact lV (by (rw [if_pos (by omega), hv]; first | exact (if_pos (by omega)).symm | exact (if_neg (by omega)).symm))
            · refine jblk hF [(.lload_n 2, 1), (.lneg, 1)] (by decide +kernel) (pc' := 106) (lo' := [(0, (2, p)), (1, (0, n)), (2, (1, v)), (4, (0, j))]) (st' := [(1, -v)]) rfl ?_
              refine jgoto hF (off := 4) 110 (by decide +kernel) (by decide) ?_
              refine jlret hF hr (by decide +kernel) ?_
              exact lV (by (rw [if_pos (by omega), hv]; first | exact (if_pos (by omega)).symm | exact (if_neg (by omega)).symm))
          · refine jblk hF [(.iload 4, 2)] (by decide +kernel) (pc' := 41) (lo' := [(0, (2, p)), (1, (0, n)), (2, (1, v)), (4, (0, j))]) (st' := [(0, j)]) rfl ?_
            refine jcallSN hF (c_X11_ten hG hK hR j (by assumption) (by omega)) MW_X11_ten wd_1158 wd_519 (by decide +kernel) [] rfl rfl (by decide) (Nat.le_of_ble_eq_true rfl) (by decide) (kV ?_)
            refine jblk hF [(.lstore 5, 2), (.aload_n 0, 1), (.iload_n 1, 1), (.iload 4, 2)] (by decide +kernel) (pc' := 50) (lo' := [(5, (1, 10 ^ j.toNat)), (0, (2, p)), (1, (0, n)), (2, (1, v)), (4, (0, j))]) (st' := [(0, j), (0, n), (2, p)]) rfl ?_
            refine jcallV hF (c_X3_isPressed hG p n j (by first | assumption | omega) (by omega) (by first | assumption | omega) (by omega) (by omega) (by omega)) MW_X3_isPressed 4 (by decide) (by first | assumption | omega) wd_1112 wd_1113 wd_1114 (by decide +kernel) [] rfl rfl (by decide) (Nat.le_of_ble_eq_true rfl) (by decide) (kB (fun h_10 => ?_) (fun h_10 => ?_))
            · refine jif_eq hF (off := 34) 87 (by decide +kernel) (by decide) (by decide) (fun h => absurd h (by decide)) (fun _ => ?_)
              refine jblk hF [(.lload 5, 2)] (by decide +kernel) (pc' := 58) (lo' := [(5, (1, 10 ^ j.toNat)), (0, (2, p)), (1, (0, n)), (2, (1, v)), (4, (0, j))]) (st' := [(1, 10 ^ j.toNat)]) rfl ?_
              refine jlconst hF (n := 0) 0 rfl (by decide +kernel) ?_
              refine jlcmp_le hF (off := 27) 87 (by decide +kernel) (by decide +kernel) (by decide) (by omega) (by decide) (fun h_12 => ?_) (fun h_12 => ?_)
              · refine jblk hF [(.iinc 4 1, 3)] (by decide +kernel) (pc' := 90) (lo' := [(4, (0, j + 1)), (5, (1, 10 ^ j.toNat)), (0, (2, p)), (1, (0, n)), (2, (1, v))]) (st' := []) rfl ?_
                refine jgoto hF (off := (-58)) 32 (by decide +kernel) (by decide) ?_
                refine jsub [2, 3, 4, 0] rfl ?_
                refine ih_5 v (j + 1) ?_ ?_ ?_
                · omega
                · (rw [show (j + 1).toNat = j.toNat + 1 by omega, ppN, show ((j.toNat : Nat) : Int) = j by omega, ← hv]; first | exact (if_pos (by omega)).symm | exact (if_neg (by omega)).symm | (exfalso; omega))
                · omega
              · refine jblk hF [(.lload_n 2, 1), (.aload_n 0, 1), (.iload_n 1, 1), (.iload 4, 2)] (by decide +kernel) (pc' := 68) (lo' := [(5, (1, 10 ^ j.toNat)), (0, (2, p)), (1, (0, n)), (2, (1, v)), (4, (0, j))]) (st' := [(0, j), (0, n), (2, p), (1, v)]) rfl ?_
                refine jcallV hF (c_X3_pressedAt hG p n j (by first | assumption | omega) (by omega) (by first | assumption | omega) (by omega) (by omega) (by omega)) MW_X3_pressedAt 4 (by decide) (by first | assumption | omega) wd_1116 wd_1118 wd_p36 (by decide +kernel) [(1, v)] rfl rfl (by decide) (Nat.le_of_ble_eq_true rfl) (by decide) (kV ?_)
                refine jlconst hF (n := 1) 1 rfl (by decide +kernel) ?_
                refine jblk hF [(.lsub, 1), (.lload_n 2, 1), (.lload 5, 2)] (by decide +kernel) (pc' := 76) (lo' := [(5, (1, 10 ^ j.toNat)), (0, (2, p)), (1, (0, n)), (2, (1, v)), (4, (0, j))]) (st' := [(1, 10 ^ j.toNat), (1, v), (1, (nibG (mem (mem p 18) n) j) - 1), (1, v)]) rfl ?_
                refine jldivN hF (by decide +kernel) (by omega) (by omega) ?_
                refine jldc2 hF 10 (cst_l wd_1159 (by decide)) (by decide +kernel) ?_
                refine jlremN hF (by decide +kernel) (by omega) (by omega) ?_
                refine jblk hF [(.lsub, 1), (.lload 5, 2), (.lmul, 1), (.ladd, 1), (.lstore_n 2, 1), (.iinc 4 1, 3)] (by decide +kernel) (pc' := 90) (lo' := [(4, (0, j + 1)), (2, (1, v + ((((nibG (mem (mem p 18) n) j) - 1) - ((v / (10 ^ j.toNat)) % 10)) * (10 ^ j.toNat)))), (5, (1, 10 ^ j.toNat)), (0, (2, p)), (1, (0, n))]) (st' := []) rfl ?_
                refine jgoto hF (off := (-58)) 32 (by decide +kernel) (by decide) ?_
                refine jsub [3, 4, 1, 0] rfl ?_
                refine ih_5 (v + ((((nibG (mem (mem p 18) n) j) - 1) - ((v / (10 ^ j.toNat)) % 10)) * (10 ^ j.toNat))) (j + 1) ?_ ?_ ?_
                · omega
                · (rw [show (j + 1).toNat = j.toNat + 1 by omega, ppN, show ((j.toNat : Nat) : Int) = j by omega, ← hv]; first | exact (if_pos (by omega)).symm | exact (if_neg (by omega)).symm | (exfalso; omega))
                · omega
            · refine jif_eq hF (off := 34) 87 (by decide +kernel) (by decide) (by decide) (fun _ => ?_) (fun h => absurd h (by decide))
              refine jblk hF [(.iinc 4 1, 3)] (by decide +kernel) (pc' := 90) (lo' := [(4, (0, j + 1)), (5, (1, 10 ^ j.toNat)), (0, (2, p)), (1, (0, n)), (2, (1, v))]) (st' := []) rfl ?_
              refine jgoto hF (off := (-58)) 32 (by decide +kernel) (by decide) ?_
              refine jsub [2, 3, 4, 0] rfl ?_
              refine ih_5 v (j + 1) ?_ ?_ ?_
              · omega
              · (rw [show (j + 1).toNat = j.toNat + 1 by omega, ppN, show ((j.toNat : Nat) : Int) = j by omega, ← hv]; first | exact (if_pos (by omega)).symm | exact (if_neg (by omega)).symm | (exfalso; omega))
              · omega
      refine jsub [2, 3, 1, 0] rfl ?_
      refine L_6 _ (absV (mem (mem p 17) n)) 0 ?_ ?_ (Nat.lt_succ_self _)
      · omega
      · rfl
    · refine jif_ne hF (off := 7) 19 (by decide +kernel) (by decide) (by decide) (fun h => absurd h (by decide)) (fun _ => ?_)
      have hd0 : ¬ (0 ≤ mem p 17 ∧ 0 ≤ n ∧ n ≤ mem p 2 - 1) := by omega
      refine jldc2 hF (-1) (cst_l wd_1148 (by decide)) (by decide +kernel) ?_
      refine jlret hF hr (by decide +kernel) ?_
      exact lV (by exact (if_neg hd0).symm)
end
