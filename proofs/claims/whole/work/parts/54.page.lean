section
/-- the ways of taking k, as the house counts them -/
def chC (d : Int) : Nat → Int
  | 0 => 1
  | i + 1 => chC d i * (d + ((i : Int) + 1)) / ((i : Int) + 1)
theorem chC_all : ∀ n : Fin 41, ∀ k : Fin 6, k.val ≤ n.val → chC (((n.val : Nat) : Int) - ((k.val : Nat) : Int)) k.val = chN ((n.val : Nat) : Int) k.val := by decide +kernel
theorem chC_lim : ∀ d : Fin 41, ∀ k : Fin 6, 0 ≤ chC ((d.val : Nat) : Int) k.val ∧ chC ((d.val : Nat) : Int) k.val ≤ 2000000 := by decide +kernel
theorem chC_e {n k : Int} (h : 0 ≤ k ∧ k ≤ 5 ∧ k ≤ n ∧ n ≤ 40) : chC (n - k) k.toNat = chN n k.toNat := by
  have a := chC_all ⟨n.toNat, by omega⟩ ⟨k.toNat, by omega⟩ (by show k.toNat ≤ n.toNat; omega)
  have e1 : ((n.toNat : Nat) : Int) = n := by omega
  have e2 : ((k.toNat : Nat) : Int) = k := by omega
  rw [← e1, ← e2]
  exact a
theorem chC_bd {d : Int} (hd : 0 ≤ d ∧ d ≤ 40) {k : Nat} (hk : k ≤ 5) : 0 ≤ chC d k ∧ chC d k ≤ 2000000 := by
  have a := chC_lim ⟨d.toNat, by omega⟩ ⟨k, by omega⟩
  have e1 : ((d.toNat : Nat) : Int) = d := by omega
  rw [← e1]
  exact a
theorem pivC_blk {s o x : Int} (_hs : 0 < s) (hos : 0 ≤ o ∧ o + 1 ≤ s) (hx : 0 ≤ x) (hm : x % s = 0) : ∀ t : Nat, (t : Int) ≤ s → pivC s o (x.toNat + t) = pivC s o x.toNat + (if (t : Int) < o + 1 then (t : Int) else o + 1) := by
  intro t
  induction t with
  | zero => intro _; rw [if_pos (by omega)]; show pivC s o x.toNat = pivC s o x.toNat + 0; omega
  | succ t ih =>
    intro ht
    have a := ih (by omega)
    have e : ((x.toNat + t : Nat) : Int) % s = t := by
      rw [show ((x.toNat + t : Nat) : Int) = x + t by omega]
      have h1 := Int.mul_ediv_add_emod x s
      rw [hm] at h1
      rw [← h1, Int.add_zero, Int.mul_add_emod_self_left]
      exact Int.emod_eq_of_lt (by omega) (by omega)
    show pivC s o (x.toNat + t) + (if ((x.toNat + t : Nat) : Int) % s > o then 0 else 1) = _
    rw [a, e]
    split <;> split <;> split <;> omega
def edV (mem : Int → Int → Int) (p b : Int) : Int := if b * mem p 7 < mem p 2 then b * mem p 7 else mem p 2
theorem piv_step {mem : Int → Int → Int} {p b a : Int} (h : PB mem p) (hb : 0 ≤ b ∧ b < (mem p 2 - 1) / mem p 7 + 1) (ha : a = pivC (mem p 7) (mem p 4) (edV mem p b).toNat) : a + (mdV mem p b - b * mem p 7) = pivC (mem p 7) (mem p 4) (edV mem p (b + 1)).toNat := by
  have h1 := (Int.le_ediv_iff_mul_le (a := b) (b := mem p 2 - 1) (c := mem p 7) (by omega)).mp (by omega)
  have h2 : (b + 1) * mem p 7 = b * mem p 7 + mem p 7 := by rw [Int.add_mul, Int.one_mul]
  have h3 : 0 ≤ b * mem p 7 := Int.mul_nonneg (by omega) (by omega)
  have e1 : edV mem p b = b * mem p 7 := by unfold edV; rw [if_pos (by omega)]
  have e2 : edV mem p (b + 1) = enV mem p b := rfl
  have e3 : b * mem p 7 + 0 ≤ enV mem p b ∧ enV mem p b ≤ b * mem p 7 + mem p 7 := by unfold enV; rw [h2]; split <;> omega
  have k := pivC_blk (s := mem p 7) (o := mem p 4) (x := b * mem p 7) (by omega) (by omega) h3 (Int.mul_emod_left b (mem p 7)) (enV mem p b - b * mem p 7).toNat (by omega)
  rw [show (b * mem p 7).toNat + (enV mem p b - b * mem p 7).toNat = (enV mem p b).toNat by omega] at k
  rw [e2, k, ha, e1]
  unfold mdV
  split <;> split <;> omega
theorem edV_bd {mem : Int → Int → Int} {p b : Int} (h : PB mem p) (hb : 0 ≤ b) : 0 ≤ edV mem p b ∧ edV mem p b ≤ 40 := by
  have h3 : 0 ≤ b * mem p 7 := Int.mul_nonneg (by omega) (by omega)
  unfold edV
  split <;> omega
theorem edV_end {mem : Int → Int → Int} {p b : Int} (h : PB mem p) (hb : ¬ b < (mem p 2 - 1) / mem p 7 + 1) : edV mem p b = mem p 2 := by
  have h1 : ¬ b * mem p 7 ≤ mem p 2 - 1 := fun q1 => by have := (Int.le_ediv_iff_mul_le (a := b) (b := mem p 2 - 1) (c := mem p 7) (by omega)).mpr q1; omega
  unfold edV
  rw [if_neg (by omega)]
set_option maxHeartbeats 4000000 in
set_option maxRecDepth 100000 in
theorem c_X11_choose {l : Launch} {g : GP} (hG : GH g) {kd : Int → Nat} {ln : Int → Int} {mem : Int → Int → Int} {sz : Nat} (n k : Int) (hk : 0 ≤ k ∧ k ≤ 5 ∧ k ≤ n ∧ n ≤ 40) : MT l g yX11_choose cX11_choose 5 (some .long) 0 0 0 [(0, n), (0, k)] kd ln mem sz (pV (1, chN n k.toNat) kd ln mem sz) := by
  refine MT_of hG (by decide +kernel) (Nat.le_of_ble_eq_true rfl) (fun z hF hr hn => ?_)
  refine jlconst hF (n := 1) 1 rfl (by decide +kernel) ?_
  refine jblk hF [(.lstore_n 2, 1), (.iconst 1, 1), (.istore 4, 2)] (by decide +kernel) (pc' := 5) (lo' := [(4, (0, 1)), (2, (1, 1)), (0, (0, n)), (1, (0, k))]) (st' := []) rfl ?_
  have L_2 : ∀ (fu_3 : Nat) (v : Int) (i : Int), (1 ≤ i ∧ i ≤ k + 1) → (v = chC (n - k) (i - 1).toNat) →  (k + 1 - i).toNat < fu_3 → J z g 5 0 0 (QM z g 0 0 (pV (1, chN n k.toNat) kd ln mem sz)) 5 [(0, (0, n)), (1, (0, k)), (2, (1, v)), (4, (0, i))] [] kd ln mem sz := by
    intro fu_3
    induction fu_3 with
    | zero => intro v i _ _ hm; omega
    | succ fu_3 ih_1 =>
      intro v i hi hv hm
      refine jblk hF [(.iload 4, 2), (.iload_n 1, 1)] (by decide +kernel) (pc' := 8) (lo' := [(0, (0, n)), (1, (0, k)), (2, (1, v)), (4, (0, i))]) (st' := [(0, k), (0, i)]) rfl ?_
      refine jicmp_gt hF (off := 23) 31 (by decide +kernel) (by decide) (by omega) (by omega) (fun h_4 => ?_) (fun h_4 => ?_)
      · refine jblk hF [(.lload_n 2, 1)] (by decide +kernel) (pc' := 32) (lo' := [(0, (0, n)), (1, (0, k)), (2, (1, v)), (4, (0, i))]) (st' := [(1, v)]) rfl ?_
        refine jlret hF hr (by decide +kernel) ?_
        exact lV (by (rw [hv, show i - 1 = k by omega]; exact chC_e hk))
      · have hb := chC_bd (d := n - k) (by omega) (k := (i - 1).toNat) (by omega)
        have hm2 := mul_bd (a := v) (b := n - k + i) (M := 2000000) (N := 46) (by omega) (by omega)
        refine jblk hF [(.lload_n 2, 1), (.iload_n 0, 1), (.iload_n 1, 1), (.isub, 1), (.iload 4, 2), (.iadd, 1)] (by decide +kernel) (pc' := 18) (lo' := [(0, (0, n)), (1, (0, k)), (2, (1, v)), (4, (0, i))]) (st' := [(0, (n - k) + i), (1, v)]) rfl ?_
        refine ji2l hF (by decide +kernel) (by omega) ?_
        refine jblk hF [(.lmul, 1), (.iload 4, 2)] (by decide +kernel) (pc' := 22) (lo' := [(0, (0, n)), (1, (0, k)), (2, (1, v)), (4, (0, i))]) (st' := [(0, i), (1, v * ((n - k) + i))]) rfl ?_
        refine ji2l hF (by decide +kernel) (by omega) ?_
        refine jldivN hF (by decide +kernel) (by omega) (by omega) ?_
        refine jblk hF [(.lstore_n 2, 1), (.iinc 4 1, 3)] (by decide +kernel) (pc' := 28) (lo' := [(4, (0, i + 1)), (2, (1, (v * ((n - k) + i)) / i)), (0, (0, n)), (1, (0, k))]) (st' := []) rfl ?_
        refine jgoto hF (off := (-23)) 5 (by decide +kernel) (by decide) ?_
        refine jsub [2, 3, 1, 0] rfl ?_
        refine ih_1 ((v * ((n - k) + i)) / i) (i + 1) ?_ ?_ ?_
        · omega
        · rw [show (i + 1 - 1).toNat = (i - 1).toNat + 1 by omega, chC, show (((i - 1).toNat : Nat) : Int) + 1 = i by omega, hv]
        · omega
  refine jsub [2, 3, 1, 0] rfl ?_
  refine L_2 _ 1 1 ?_ ?_ (Nat.lt_succ_self _)
  · omega
  · rfl
set_option maxHeartbeats 4000000 in
set_option maxRecDepth 100000 in
theorem c_X3_boundOf {l : Launch} {g : GP} (hG : GH g) {kd : Int → Nat} {ln : Int → Int} {mem : Int → Int → Int} {sz : Nat} (p : Int) (n : Int) (hkp : kd p = 5) (hp0 : 0 ≤ p) (hPB : PB mem p) (hn1 : 0 ≤ n ∧ n < mem p 2) : MT l g yX3_boundOf cX3_boundOf 6 (some .long) 3 0 0 [(2, p), (0, n)] kd ln mem sz (pV (1, (if mem p 4 < n % mem p 7 then (bndN (n % mem p 7) (mem p 4) (mem p 4 + 1).toNat + 1) / 2 else 1)) kd ln mem sz) := by
  refine MT_of hG (by decide +kernel) (Nat.le_of_ble_eq_true rfl) (fun z hF hr hn => ?_)
  have ⟨b1, b2, b3, b4, b5, b6, b7, b8, b9, b10, b11, b12, b13, b14, b15, b16⟩ := hPB
  have hd1 := ediv_mul_bd n (mem p 7) (by omega)
  have hd2 := Int.mul_ediv_add_emod n (mem p 7)
  rw [Int.mul_comm] at hd2
  have hd3 := ediv_bd n (mem p 7) (by omega)
  have hq := emod_bd n (mem p 7) (by omega) (by omega)
  refine jblk hF [(.aload_n 0, 1), (.iload_n 1, 1)] (by decide +kernel) (pc' := 2) (lo' := [(0, (2, p)), (1, (0, n))]) (st' := [(0, n), (2, p)]) rfl ?_
  refine jcallV hF (c_X3_isMade hG p n (by first | assumption | omega) (by omega) (by assumption) (by omega)) MW_X3_isMade 4 (by decide) (by first | assumption | omega) wd_889 wd_890 wd_891 (by decide +kernel) [] rfl rfl (by decide) (Nat.le_of_ble_eq_true rfl) (by decide) (kB (fun h_1 => ?_) (fun h_1 => ?_))
  · refine jif_ne hF (off := 5) 10 (by decide +kernel) (by decide) (by decide) (fun _ => ?_) (fun h => absurd h (by decide))
    refine jblk hF [(.iload_n 1, 1), (.aload_n 0, 1), (.aload_n 0, 1), (.iload_n 1, 1)] (by decide +kernel) (pc' := 14) (lo' := [(0, (2, p)), (1, (0, n))]) (st' := [(0, n), (2, p), (2, p), (0, n)]) rfl ?_
    refine jcallV hF (c_X3_blockOf hG p n (by first | assumption | omega) (by omega) (by omega) (by omega)) MW_X3_blockOf 4 (by decide) (by first | assumption | omega) wd_789 wd_790 wd_791 (by decide +kernel) [(2, p), (0, n)] rfl rfl (by decide) (Nat.le_of_ble_eq_true rfl) (by decide) (kV ?_)
    refine jcallV hF (c_X3_startOf hG p (n / mem p 7) (by first | assumption | omega) (by omega) (by omega) (by omega)) MW_X3_startOf 4 (by decide) (by first | assumption | omega) wd_830 wd_831 wd_832 (by decide +kernel) [(0, n)] rfl rfl (by decide) (Nat.le_of_ble_eq_true rfl) (by decide) (kV ?_)
    refine jblk hF [(.isub, 1), (.istore_n 2, 1)] (by decide +kernel) (pc' := 22) (lo' := [(2, (0, n - ((n / mem p 7) * mem p 7))), (0, (2, p)), (1, (0, n))]) (st' := []) rfl ?_
    obtain ⟨pl, hpl⟩ : ∃ q : Int, q = n - ((n / mem p 7) * mem p 7) := ⟨_, rfl⟩
    rw [← hpl]
    have hpe : pl = n % mem p 7 := by omega
    refine jlconst hF (n := 0) 0 rfl (by decide +kernel) ?_
    refine jblk hF [(.lstore_n 3, 1), (.iconst 0, 1), (.istore 5, 2)] (by decide +kernel) (pc' := 27) (lo' := [(5, (0, 0)), (3, (1, 0)), (2, (0, pl)), (0, (2, p)), (1, (0, n))]) (st' := []) rfl ?_
    have L_4 : ∀ (fu_5 : Nat) (a : Int) (j : Int), (0 ≤ j ∧ j ≤ mem p 4 + 1) → (a = bndN (n % mem p 7) (mem p 4) j.toNat) →  (mem p 4 + 1 - j).toNat < fu_5 → J z g 6 0 0 (QM z g 0 0 (pV (1, (if mem p 4 < n % mem p 7 then (bndN (n % mem p 7) (mem p 4) (mem p 4 + 1).toNat + 1) / 2 else 1)) kd ln mem sz)) 27 [(0, (2, p)), (1, (0, n)), (2, (0, pl)), (3, (1, a)), (5, (0, j))] [] kd ln mem sz := by
      intro fu_5
      induction fu_5 with
      | zero => intro a j _ _ hm; omega
      | succ fu_5 ih_3 =>
        intro a j hj ha hm
        have hb := bndN_bd (i := n % mem p 7) (o := mem p 4) (by omega) (by omega) (by omega) j.toNat (by omega)
        have hb2 : (j.toNat : Int) * 10485760000000000 ≤ 52428800000000000 := by omega
        refine jblk hF [(.iload 5, 2), (.aload_n 0, 1)] (by decide +kernel) (pc' := 30) (lo' := [(0, (2, p)), (1, (0, n)), (2, (0, pl)), (3, (1, a)), (5, (0, j))]) (st' := [(2, p), (0, j)]) rfl ?_
        refine jget hF 4 4 0 4 rfl (by decide) (by decide) rfl wd_700 (by decide +kernel) (by first | assumption | omega) ?_
        refine jicmp_gt hF (off := 35) 68 (by decide +kernel) (by decide) (by omega) (by omega) (fun h_6 => ?_) (fun h_6 => ?_)
        · refine jblk hF [(.lload_n 3, 1)] (by decide +kernel) (pc' := 69) (lo' := [(0, (2, p)), (1, (0, n)), (2, (0, pl)), (3, (1, a)), (5, (0, j))]) (st' := [(1, a)]) rfl ?_
          refine jlconst hF (n := 1) 1 rfl (by decide +kernel) ?_
          refine jblk hF [(.ladd, 1)] (by decide +kernel) (pc' := 71) (lo' := [(0, (2, p)), (1, (0, n)), (2, (0, pl)), (3, (1, a)), (5, (0, j))]) (st' := [(1, a + 1)]) rfl ?_
          refine jldc2 hF 2 (cst_l wd_1004 (by decide)) (by decide +kernel) ?_
          refine jldivN hF (by decide +kernel) (by omega) (by omega) ?_
          refine jlret hF hr (by decide +kernel) ?_
          exact lV (by first | exact (if_neg (by omega)).symm | (rw [if_pos (by omega), ha, show j = mem p 4 + 1 by omega]))
        · refine jblk hF [(.lload_n 3, 1), (.iload_n 2, 1), (.iload 5, 2)] (by decide +kernel) (pc' := 40) (lo' := [(0, (2, p)), (1, (0, n)), (2, (0, pl)), (3, (1, a)), (5, (0, j))]) (st' := [(0, j), (0, pl), (1, a)]) rfl ?_
          refine jcallSN hF (c_X11_choose hG pl j (by omega)) MW_X11_choose wd_1001 wd_1002 (by decide +kernel) [(1, a)] rfl rfl (by decide) (Nat.le_of_ble_eq_true rfl) (by decide) (kV ?_)
          have hf_7 := chN_5e (pl) (j) (by omega)
          refine jblk hF [(.iload_n 2, 1), (.iload 5, 2), (.isub, 1), (.iconst 1, 1), (.isub, 1), (.aload_n 0, 1)] (by decide +kernel) (pc' := 50) (lo' := [(0, (2, p)), (1, (0, n)), (2, (0, pl)), (3, (1, a)), (5, (0, j))]) (st' := [(2, p), (0, (pl - j) - 1), (1, chN pl j.toNat), (1, a)]) rfl ?_
          refine jget hF 4 4 0 4 rfl (by decide) (by decide) rfl wd_700 (by decide +kernel) (by first | assumption | omega) ?_
          refine jblk hF [(.iload 5, 2), (.isub, 1)] (by decide +kernel) (pc' := 56) (lo' := [(0, (2, p)), (1, (0, n)), (2, (0, pl)), (3, (1, a)), (5, (0, j))]) (st' := [(0, (mem p 4) - j), (0, (pl - j) - 1), (1, chN pl j.toNat), (1, a)]) rfl ?_
          refine jcallSN hF (c_X11_choose hG ((pl - j) - 1) ((mem p 4) - j) (by omega)) MW_X11_choose wd_1001 wd_1002 (by decide +kernel) [(1, chN pl j.toNat), (1, a)] rfl rfl (by decide) (Nat.le_of_ble_eq_true rfl) (by decide) (kV ?_)
          have hf_8 := chN_5e (((pl - j) - 1)) (((mem p 4) - j)) (by omega)
          refine jblk hF [(.lmul, 1), (.ladd, 1), (.lstore_n 3, 1), (.iinc 5 1, 3)] (by decide +kernel) (pc' := 65) (lo' := [(5, (0, j + 1)), (3, (1, a + ((chN pl j.toNat) * (chN ((pl - j) - 1) ((mem p 4) - j).toNat)))), (0, (2, p)), (1, (0, n)), (2, (0, pl))]) (st' := []) rfl ?_
          refine jgoto hF (off := (-38)) 27 (by decide +kernel) (by decide) ?_
          refine jsub [2, 3, 4, 1, 0] rfl ?_
          refine ih_3 (a + ((chN pl j.toNat) * (chN ((pl - j) - 1) ((mem p 4) - j).toNat))) (j + 1) ?_ ?_ ?_
          · omega
          · rw [show (j + 1).toNat = j.toNat + 1 by omega, bndN, show ((j.toNat : Nat) : Int) = j by omega, ha, ← hpe]
          · omega
    refine jsub [3, 4, 2, 1, 0] rfl ?_
    refine L_4 _ 0 0 ?_ ?_ (Nat.lt_succ_self _)
    · omega
    · rfl
  · refine jif_ne hF (off := 5) 10 (by decide +kernel) (by decide) (by decide) (fun h => absurd h (by decide)) (fun _ => ?_)
    refine jlconst hF (n := 1) 1 rfl (by decide +kernel) ?_
    refine jlret hF hr (by decide +kernel) ?_
    exact lV (by first | exact (if_neg (by omega)).symm | (rw [if_pos (by omega), ha, show j = mem p 4 + 1 by omega]))
set_option maxHeartbeats 4000000 in
set_option maxRecDepth 100000 in
theorem c_X3_pivots {l : Launch} {g : GP} (hG : GH g) {kd : Int → Nat} {ln : Int → Int} {mem : Int → Int → Int} {sz : Nat} (p : Int) (hkp : kd p = 5) (hp0 : 0 ≤ p) (hPB : PB mem p) : MT l g yX3_pivots cX3_pivots 3 (some .int) 2 0 0 [(2, p)] kd ln mem sz (pV (0, pivC (mem p 7) (mem p 4) (mem p 2).toNat) kd ln mem sz) := by
  refine MT_of hG (by decide +kernel) (Nat.le_of_ble_eq_true rfl) (fun z hF hr hn => ?_)
  have ⟨b1, b2, b3, b4, b5, b6, b7, b8, b9, b10, b11, b12, b13, b14, b15, b16⟩ := hPB
  refine jblk hF [(.iconst 0, 1), (.istore_n 1, 1), (.iconst 0, 1), (.istore_n 2, 1)] (by decide +kernel) (pc' := 4) (lo' := [(2, (0, 0)), (1, (0, 0)), (0, (2, p))]) (st' := []) rfl ?_
  have L_2 : ∀ (fu_3 : Nat) (a : Int) (b : Int), (0 ≤ b ∧ b ≤ 40) → (a = pivC (mem p 7) (mem p 4) (edV mem p b).toNat) →  (41 - b).toNat < fu_3 → J z g 3 0 0 (QM z g 0 0 (pV (0, pivC (mem p 7) (mem p 4) (mem p 2).toNat) kd ln mem sz)) 4 [(0, (2, p)), (1, (0, a)), (2, (0, b))] [] kd ln mem sz := by
    intro fu_3
    induction fu_3 with
    | zero => intro a b _ _ hm; omega
    | succ fu_3 ih_1 =>
      intro a b hb ha hm
      have hd3 := ediv_bd (mem p 2 - 1) (mem p 7) (by omega)
      have hbd := pivC_bd (mem p 7) (mem p 4) (edV mem p b).toNat
      have hed := edV_bd hPB hb.1
      refine jblk hF [(.iload_n 2, 1), (.aload_n 0, 1)] (by decide +kernel) (pc' := 6) (lo' := [(0, (2, p)), (1, (0, a)), (2, (0, b))]) (st' := [(2, p), (0, b)]) rfl ?_
      refine jcallV hF (c_X3_blocks hG p (by first | assumption | omega) (by omega) (by assumption)) MW_X3_blocks 4 (by decide) (by first | assumption | omega) wd_859 wd_815 wd_816 (by decide +kernel) [(0, b)] rfl rfl (by decide) (Nat.le_of_ble_eq_true rfl) (by decide) (kV ?_)
      refine jicmp_ge hF (off := 23) 32 (by decide +kernel) (by decide) (by omega) (by omega) (fun h_4 => ?_) (fun h_4 => ?_)
      · refine jblk hF [(.iload_n 1, 1)] (by decide +kernel) (pc' := 33) (lo' := [(0, (2, p)), (1, (0, a)), (2, (0, b))]) (st' := [(0, a)]) rfl ?_
        refine jiret hF hr (by decide +kernel) ?_
        exact lV (by (rw [ha, edV_end hPB (by omega)]))
      · have hmd := mdV_bd hPB (b := b) (by omega)
        have hmb := mul_bd (a := b) (b := mem p 7) (M := 40) (N := 40) (by omega) (by omega)
        refine jblk hF [(.iload_n 1, 1), (.aload_n 0, 1), (.iload_n 2, 1)] (by decide +kernel) (pc' := 15) (lo' := [(0, (2, p)), (1, (0, a)), (2, (0, b))]) (st' := [(0, b), (2, p), (0, a)]) rfl ?_
        refine jcallV hF (c_X3_madeFrom hG p b (by first | assumption | omega) (by omega) (by assumption) (by omega)) MW_X3_madeFrom 4 (by decide) (by first | assumption | omega) wd_864 wd_823 wd_824 (by decide +kernel) [(0, a)] rfl rfl (by decide) (Nat.le_of_ble_eq_true rfl) (by decide) (kV ?_)
        refine jblk hF [(.aload_n 0, 1), (.iload_n 2, 1)] (by decide +kernel) (pc' := 20) (lo' := [(0, (2, p)), (1, (0, a)), (2, (0, b))]) (st' := [(0, b), (2, p), (0, mdV mem p b), (0, a)]) rfl ?_
        refine jcallV hF (c_X3_startOf hG p b (by first | assumption | omega) (by omega) (by omega) (by omega)) MW_X3_startOf 4 (by decide) (by first | assumption | omega) wd_830 wd_831 wd_832 (by decide +kernel) [(0, mdV mem p b), (0, a)] rfl rfl (by decide) (Nat.le_of_ble_eq_true rfl) (by decide) (kV ?_)
        refine jblk hF [(.isub, 1), (.iadd, 1), (.istore_n 1, 1), (.iinc 2 1, 3)] (by decide +kernel) (pc' := 29) (lo' := [(2, (0, b + 1)), (1, (0, a + ((mdV mem p b) - (b * mem p 7)))), (0, (2, p))]) (st' := []) rfl ?_
        refine jgoto hF (off := (-25)) 4 (by decide +kernel) (by decide) ?_
        refine jsub [2, 1, 0] rfl ?_
        refine ih_1 (a + ((mdV mem p b) - (b * mem p 7))) (b + 1) ?_ ?_ ?_
        · omega
        · exact piv_step hPB (by omega) ha
        · omega
  refine jsub [2, 1, 0] rfl ?_
  refine L_2 _ 0 0 ?_ ?_ (Nat.lt_succ_self _)
  · omega
  · (unfold edV; rw [if_pos (by omega), Int.zero_mul]; rfl)
set_option maxHeartbeats 4000000 in
set_option maxRecDepth 100000 in
theorem c_X3_isSet {l : Launch} {g : GP} (hG : GH g) {kd : Int → Nat} {ln : Int → Int} {mem : Int → Int → Int} {sz : Nat} (p : Int) (hkp : kd p = 5) (hp0 : 0 ≤ p) : MT l g yX3_isSet cX3_isSet 1 (some .boolean) 0 0 0 [(2, p)] kd ln mem sz (pB (0 ≤ mem p 17) kd ln mem sz) := by
  refine MT_of hG (by decide +kernel) (Nat.le_of_ble_eq_true rfl) (fun z hF hr hn => ?_)
  refine jblk hF [(.aload_n 0, 1)] (by decide +kernel) (pc' := 1) (lo' := [(0, (2, p))]) (st' := [(2, p)]) rfl ?_
  refine jget hF 4 17 2 17 rfl (by decide) (by decide) rfl wd_727 (by decide +kernel) (by first | assumption | omega) ?_
  refine jnull hF (off := 7) 11 (by decide +kernel) (by decide) (fun h_1 => ?_) (fun h_1 => ?_)
  · refine jblk hF [(.iconst 0, 1)] (by decide +kernel) (pc' := 12) (lo' := [(0, (2, p))]) (st' := [(0, 0)]) rfl ?_
    refine jzret hF hr (by omega) (by decide +kernel) ?_
    exact lB0 (by omega)
  · refine jblk hF [(.iconst 1, 1)] (by decide +kernel) (pc' := 8) (lo' := [(0, (2, p))]) (st' := [(0, 1)]) rfl ?_
    refine jgoto hF (off := 4) 12 (by decide +kernel) (by decide) ?_
    refine jzret hF hr (by omega) (by decide +kernel) ?_
    exact lB1 (by omega)
set_option maxHeartbeats 4000000 in
set_option maxRecDepth 100000 in
theorem c_X3_told {l : Launch} {g : GP} (hG : GH g) {kd : Int → Nat} {ln : Int → Int} {mem : Int → Int → Int} {sz : Nat} (p : Int) (w : Int) (hkp : kd p = 5) (hp0 : 0 ≤ p) (hPB : PB mem p) (h_w : InI w) : MT l g yX3_told cX3_told 2 (some .int) 3 0 0 [(2, p), (0, w)] kd ln mem sz (pV (0, (if w = 0 then mem p 0 else if w = 1 then mem p 2 else if w = 2 then mem p 3 else if w = 3 then mem p 4 else if w = 4 then mem p 5 else if w = 5 then mem p 6 else if w = 6 then mem p 7 else if w = 7 then mem p 8 else if w = 8 then (mem p 2 - 1) / mem p 7 + 1 else if w = 9 then pivC (mem p 7) (mem p 4) (mem p 2).toNat else -1)) kd ln mem sz) := by
  refine MT_of hG (by decide +kernel) (Nat.le_of_ble_eq_true rfl) (fun z hF hr hn => ?_)
  refine jblk hF [(.iload_n 1, 1)] (by decide +kernel) (pc' := 1) (lo' := [(0, (2, p)), (1, (0, w))]) (st' := [(0, w)]) rfl ?_
  by_cases h_1 : w = 0
  · refine jtabIn hF (dflt := 105) (lo' := 0) (hi := 9) (offs := #[55, 60, 65, 70, 75, 80, 85, 90, 95, 100]) (len := 55) 0 55 56 (by decide +kernel) h_1 (by decide) (by decide) (by decide) rfl (by decide) ?_
    refine jblk hF [(.aload_n 0, 1)] (by decide +kernel) (pc' := 57) (lo' := [(0, (2, p)), (1, (0, w))]) (st' := [(2, p)]) rfl ?_
    refine jget hF 4 0 0 0 rfl (by decide) (by decide) rfl wd_694 (by decide +kernel) (by first | assumption | omega) ?_
    refine jiret hF hr (by decide +kernel) ?_
    exact lV (by (repeat' split) <;> first | rfl | omega)
  by_cases h_2 : w = 1
  · refine jtabIn hF (dflt := 105) (lo' := 0) (hi := 9) (offs := #[55, 60, 65, 70, 75, 80, 85, 90, 95, 100]) (len := 55) 1 60 61 (by decide +kernel) h_2 (by decide) (by decide) (by decide) rfl (by decide) ?_
    refine jblk hF [(.aload_n 0, 1)] (by decide +kernel) (pc' := 62) (lo' := [(0, (2, p)), (1, (0, w))]) (st' := [(2, p)]) rfl ?_
    refine jget hF 4 2 0 2 rfl (by decide) (by decide) rfl wd_696 (by decide +kernel) (by first | assumption | omega) ?_
    refine jiret hF hr (by decide +kernel) ?_
    exact lV (by (repeat' split) <;> first | rfl | omega)
  by_cases h_3 : w = 2
  · refine jtabIn hF (dflt := 105) (lo' := 0) (hi := 9) (offs := #[55, 60, 65, 70, 75, 80, 85, 90, 95, 100]) (len := 55) 2 65 66 (by decide +kernel) h_3 (by decide) (by decide) (by decide) rfl (by decide) ?_
    refine jblk hF [(.aload_n 0, 1)] (by decide +kernel) (pc' := 67) (lo' := [(0, (2, p)), (1, (0, w))]) (st' := [(2, p)]) rfl ?_
    refine jget hF 4 3 0 3 rfl (by decide) (by decide) rfl wd_698 (by decide +kernel) (by first | assumption | omega) ?_
    refine jiret hF hr (by decide +kernel) ?_
    exact lV (by (repeat' split) <;> first | rfl | omega)
  by_cases h_4 : w = 3
  · refine jtabIn hF (dflt := 105) (lo' := 0) (hi := 9) (offs := #[55, 60, 65, 70, 75, 80, 85, 90, 95, 100]) (len := 55) 3 70 71 (by decide +kernel) h_4 (by decide) (by decide) (by decide) rfl (by decide) ?_
    refine jblk hF [(.aload_n 0, 1)] (by decide +kernel) (pc' := 72) (lo' := [(0, (2, p)), (1, (0, w))]) (st' := [(2, p)]) rfl ?_
    refine jget hF 4 4 0 4 rfl (by decide) (by decide) rfl wd_700 (by decide +kernel) (by first | assumption | omega) ?_
    refine jiret hF hr (by decide +kernel) ?_
    exact lV (by (repeat' split) <;> first | rfl | omega)
  by_cases h_5 : w = 4
  · refine jtabIn hF (dflt := 105) (lo' := 0) (hi := 9) (offs := #[55, 60, 65, 70, 75, 80, 85, 90, 95, 100]) (len := 55) 4 75 76 (by decide +kernel) h_5 (by decide) (by decide) (by decide) rfl (by decide) ?_
    refine jblk hF [(.aload_n 0, 1)] (by decide +kernel) (pc' := 77) (lo' := [(0, (2, p)), (1, (0, w))]) (st' := [(2, p)]) rfl ?_
    refine jget hF 4 5 0 5 rfl (by decide) (by decide) rfl wd_703 (by decide +kernel) (by first | assumption | omega) ?_
    refine jiret hF hr (by decide +kernel) ?_
    exact lV (by (repeat' split) <;> first | rfl | omega)
  by_cases h_6 : w = 5
  · refine jtabIn hF (dflt := 105) (lo' := 0) (hi := 9) (offs := #[55, 60, 65, 70, 75, 80, 85, 90, 95, 100]) (len := 55) 5 80 81 (by decide +kernel) h_6 (by decide) (by decide) (by decide) rfl (by decide) ?_
    refine jblk hF [(.aload_n 0, 1)] (by decide +kernel) (pc' := 82) (lo' := [(0, (2, p)), (1, (0, w))]) (st' := [(2, p)]) rfl ?_
    refine jget hF 4 6 0 6 rfl (by decide) (by decide) rfl wd_704 (by decide +kernel) (by first | assumption | omega) ?_
    refine jiret hF hr (by decide +kernel) ?_
    exact lV (by (repeat' split) <;> first | rfl | omega)
  by_cases h_7 : w = 6
  · refine jtabIn hF (dflt := 105) (lo' := 0) (hi := 9) (offs := #[55, 60, 65, 70, 75, 80, 85, 90, 95, 100]) (len := 55) 6 85 86 (by decide +kernel) h_7 (by decide) (by decide) (by decide) rfl (by decide) ?_
    refine jblk hF [(.aload_n 0, 1)] (by decide +kernel) (pc' := 87) (lo' := [(0, (2, p)), (1, (0, w))]) (st' := [(2, p)]) rfl ?_
    refine jget hF 4 7 0 7 rfl (by decide) (by decide) rfl wd_707 (by decide +kernel) (by first | assumption | omega) ?_
    refine jiret hF hr (by decide +kernel) ?_
    exact lV (by (repeat' split) <;> first | rfl | omega)
  by_cases h_8 : w = 7
  · refine jtabIn hF (dflt := 105) (lo' := 0) (hi := 9) (offs := #[55, 60, 65, 70, 75, 80, 85, 90, 95, 100]) (len := 55) 7 90 91 (by decide +kernel) h_8 (by decide) (by decide) (by decide) rfl (by decide) ?_
    refine jblk hF [(.aload_n 0, 1)] (by decide +kernel) (pc' := 92) (lo' := [(0, (2, p)), (1, (0, w))]) (st' := [(2, p)]) rfl ?_
    refine jget hF 4 8 0 8 rfl (by decide) (by decide) rfl wd_708 (by decide +kernel) (by first | assumption | omega) ?_
    refine jiret hF hr (by decide +kernel) ?_
    exact lV (by (repeat' split) <;> first | rfl | omega)
  by_cases h_9 : w = 8
  · refine jtabIn hF (dflt := 105) (lo' := 0) (hi := 9) (offs := #[55, 60, 65, 70, 75, 80, 85, 90, 95, 100]) (len := 55) 8 95 96 (by decide +kernel) h_9 (by decide) (by decide) (by decide) rfl (by decide) ?_
    refine jblk hF [(.aload_n 0, 1)] (by decide +kernel) (pc' := 97) (lo' := [(0, (2, p)), (1, (0, w))]) (st' := [(2, p)]) rfl ?_
    refine jcallV hF (c_X3_blocks hG p (by first | assumption | omega) (by omega) (by assumption)) MW_X3_blocks 4 (by decide) (by first | assumption | omega) wd_859 wd_815 wd_816 (by decide +kernel) [] rfl rfl (by decide) (Nat.le_of_ble_eq_true rfl) (by decide) (kV ?_)
    refine jiret hF hr (by decide +kernel) ?_
    exact lV (by (repeat' split) <;> first | rfl | omega)
  by_cases h_10 : w = 9
  · refine jtabIn hF (dflt := 105) (lo' := 0) (hi := 9) (offs := #[55, 60, 65, 70, 75, 80, 85, 90, 95, 100]) (len := 55) 9 100 101 (by decide +kernel) h_10 (by decide) (by decide) (by decide) rfl (by decide) ?_
    refine jblk hF [(.aload_n 0, 1)] (by decide +kernel) (pc' := 102) (lo' := [(0, (2, p)), (1, (0, w))]) (st' := [(2, p)]) rfl ?_
    refine jcallV hF (c_X3_pivots hG p (by first | assumption | omega) (by omega) (by assumption)) MW_X3_pivots 4 (by decide) (by first | assumption | omega) wd_860 wd_861 wd_862 (by decide +kernel) [] rfl rfl (by decide) (Nat.le_of_ble_eq_true rfl) (by decide) (kV ?_)
    refine jiret hF hr (by decide +kernel) ?_
    exact lV (by (repeat' split) <;> first | rfl | omega)
  refine jtabOut hF (dflt := 105) (lo' := 0) (hi := 9) (offs := #[55, 60, 65, 70, 75, 80, 85, 90, 95, 100]) (len := 55) 106 (by decide +kernel) (by omega) (by omega) (by decide) ?_
  refine jblk hF [(.iconst (-1), 1)] (by decide +kernel) (pc' := 107) (lo' := [(0, (2, p)), (1, (0, w))]) (st' := [(0, (-1))]) rfl ?_
  refine jiret hF hr (by decide +kernel) ?_
  exact lV (by (repeat' split) <;> first | rfl | omega)
end
