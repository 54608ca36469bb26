section
theorem L_bv (a : Int) : (((Int64.ofInt a).toBitVec.toNat : Nat) : Int) = a % 18446744073709551616 := by
  show (((BitVec.ofInt 64 a).toNat : Nat) : Int) = _
  rw [BitVec.toNat_ofInt]
  omega
theorem fland_1 (a : Int) : fland a 1 = a % 2 := by
  have h1 := L_bv a
  have h2 : (Int64.ofInt a &&& Int64.ofInt 1).toBitVec.toNat = (Int64.ofInt a).toBitVec.toNat % 2 := by
    rw [Int64.toBitVec_and, BitVec.toNat_and]
    exact Nat.and_one_is_mod _
  have h3 : (Int64.ofInt a &&& Int64.ofInt 1).toInt = ((Int64.ofInt a).toBitVec.toNat % 2 : Nat) := by
    show (Int64.ofInt a &&& Int64.ofInt 1).toBitVec.toInt = _
    rw [BitVec.toInt_eq_toNat_of_lt (by rw [h2]; omega), h2]
  unfold fland
  rw [h3]
  omega
theorem fiushr_byte {a : Int} {k : Nat} (hk : k = 0 ∨ k = 8 ∨ k = 16 ∨ k = 24) : fand (fiushr a k) 255 = a / (2 ^ k : Nat) % 256 := by
  rw [fand_255]
  have h1 := I_bv a
  have key : fiushr a k = (((BitVec.ushiftRight (Int32.ofInt a).toBitVec k).toInt : Int)) := by
    rcases hk with rfl | rfl | rfl | rfl <;> rfl
  rw [key]
  have h2 : ((BitVec.ushiftRight (Int32.ofInt a).toBitVec k).toNat) = (Int32.ofInt a).toBitVec.toNat / 2 ^ k := by
    show ((Int32.ofInt a).toBitVec >>> k).toNat = _
    rw [BitVec.toNat_ushiftRight, Nat.shiftRight_eq_div_pow]
  have h3 : ((BitVec.ushiftRight (Int32.ofInt a).toBitVec k).toInt) % 256 = ((BitVec.ushiftRight (Int32.ofInt a).toBitVec k).toNat : Int) % 256 := by
    rw [BitVec.toInt_eq_toNat_cond]
    split <;> omega
  rw [h3, h2]
  have h4 := (Int32.ofInt a).toBitVec.isLt
  generalize (Int32.ofInt a).toBitVec.toNat = n at *
  rcases hk with rfl | rfl | rfl | rfl <;> simp only [Nat.reducePow] <;> omega
def nzb (a : Int) : Int → Int := fun k => byteI a k
set_option maxHeartbeats 4000000 in
set_option maxRecDepth 100000 in
theorem c_X0_init {l : Launch} {g : GP} (hG : GH g) {kd : Int → Nat} {ln : Int → Int} {mem : Int → Int → Int} {sz : Nat} (p : Int) (s a b : Int) (hkp : kd p = 2) (hp0 : 0 ≤ p) : MT l g yX0_init cX0_init 4 none 1 0 0 [(2, p), (0, s), (0, a), (0, b)] kd ln mem sz (pMV (fun mem' => (mem' = set2 (set2 (set2 mem p 0 s) p 1 a) p 2 b)) kd ln sz) := by
  refine MT_of hG (by decide +kernel) (Nat.le_of_ble_eq_true rfl) (fun z hF hr hn => ?_)
  refine jblk hF [(.aload_n 0, 1)] (by decide +kernel) (pc' := 1) (lo' := [(0, (2, p)), (1, (0, s)), (2, (0, a)), (3, (0, b))]) (st' := [(2, p)]) rfl ?_
  refine jobj hF (by omega) wd_419 wd_133 wd_objcode (by decide +kernel) (by decide) ?_
  refine jblk hF [(.aload_n 0, 1), (.iload_n 1, 1)] (by decide +kernel) (pc' := 6) (lo' := [(0, (2, p)), (1, (0, s)), (2, (0, a)), (3, (0, b))]) (st' := [(0, s), (2, p)]) rfl ?_
  refine jputF hF hn 1 0 0 0 rfl (by decide) (by decide) rfl wd_420 (by decide +kernel) rfl rfl (Or.inl rfl) (by first | assumption | omega) (fun h => by cases h) ?_
  refine jblk hF [(.aload_n 0, 1), (.iload_n 2, 1)] (by decide +kernel) (pc' := 11) (lo' := [(0, (2, p)), (1, (0, s)), (2, (0, a)), (3, (0, b))]) (st' := [(0, a), (2, p)]) rfl ?_
  refine jputF hF hn 1 1 0 1 rfl (by decide) (by decide) rfl wd_421 (by decide +kernel) rfl rfl (Or.inl rfl) (by first | assumption | omega) (fun h => by cases h) ?_
  refine jblk hF [(.aload_n 0, 1), (.iload_n 3, 1)] (by decide +kernel) (pc' := 16) (lo' := [(0, (2, p)), (1, (0, s)), (2, (0, a)), (3, (0, b))]) (st' := [(0, b), (2, p)]) rfl ?_
  refine jputF hF hn 1 2 0 2 rfl (by decide) (by decide) rfl wd_422 (by decide +kernel) rfl rfl (Or.inl rfl) (by first | assumption | omega) (fun h => by cases h) ?_
  refine jvret hF hr (by decide +kernel) ?_
  exact lMV (by rfl)
set_option maxHeartbeats 4000000 in
set_option maxRecDepth 100000 in
theorem c_X1_init {l : Launch} {g : GP} (hG : GH g) {kd : Int → Nat} {ln : Int → Int} {mem : Int → Int → Int} {sz : Nat} (p : Int) (q n o w : Int) (hkp : kd p = 3) (hp0 : 0 ≤ p) : MT l g yX1_init cX1_init 7 none 1 0 0 [(2, p), (0, q), (0, n), (1, o), (1, w)] kd ln mem sz (pMV (fun mem' => (mem' = set2 (set2 (set2 (set2 mem p 0 q) p 1 n) p 2 o) p 3 w)) kd ln sz) := by
  refine MT_of hG (by decide +kernel) (Nat.le_of_ble_eq_true rfl) (fun z hF hr hn => ?_)
  refine jblk hF [(.aload_n 0, 1)] (by decide +kernel) (pc' := 1) (lo' := [(0, (2, p)), (1, (0, q)), (2, (0, n)), (3, (1, o)), (5, (1, w))]) (st' := [(2, p)]) rfl ?_
  refine jobj hF (by omega) wd_1188 wd_133 wd_objcode (by decide +kernel) (by decide) ?_
  refine jblk hF [(.aload_n 0, 1), (.iload_n 1, 1)] (by decide +kernel) (pc' := 6) (lo' := [(0, (2, p)), (1, (0, q)), (2, (0, n)), (3, (1, o)), (5, (1, w))]) (st' := [(0, q), (2, p)]) rfl ?_
  refine jputF hF hn 2 0 0 0 rfl (by decide) (by decide) rfl wd_1189 (by decide +kernel) rfl rfl (Or.inl rfl) (by first | assumption | omega) (fun h => by cases h) ?_
  refine jblk hF [(.aload_n 0, 1), (.iload_n 2, 1)] (by decide +kernel) (pc' := 11) (lo' := [(0, (2, p)), (1, (0, q)), (2, (0, n)), (3, (1, o)), (5, (1, w))]) (st' := [(0, n), (2, p)]) rfl ?_
  refine jputF hF hn 2 1 0 1 rfl (by decide) (by decide) rfl wd_1191 (by decide +kernel) rfl rfl (Or.inl rfl) (by first | assumption | omega) (fun h => by cases h) ?_
  refine jblk hF [(.aload_n 0, 1), (.lload_n 3, 1)] (by decide +kernel) (pc' := 16) (lo' := [(0, (2, p)), (1, (0, q)), (2, (0, n)), (3, (1, o)), (5, (1, w))]) (st' := [(1, o), (2, p)]) rfl ?_
  refine jputF hF hn 2 2 1 2 rfl (by decide) (by decide) rfl wd_1193 (by decide +kernel) rfl rfl (Or.inr (Or.inr (Or.inl rfl))) (by first | assumption | omega) (fun h => by cases h) ?_
  refine jblk hF [(.aload_n 0, 1), (.lload 5, 2)] (by decide +kernel) (pc' := 22) (lo' := [(0, (2, p)), (1, (0, q)), (2, (0, n)), (3, (1, o)), (5, (1, w))]) (st' := [(1, w), (2, p)]) rfl ?_
  refine jputF hF hn 2 3 1 3 rfl (by decide) (by decide) rfl wd_1195 (by decide +kernel) rfl rfl (Or.inr (Or.inr (Or.inl rfl))) (by first | assumption | omega) (fun h => by cases h) ?_
  refine jvret hF hr (by decide +kernel) ?_
  exact lMV (by rfl)
set_option maxHeartbeats 4000000 in
set_option maxRecDepth 100000 in
theorem c_X8_init {l : Launch} {g : GP} (hG : GH g) {kd : Int → Nat} {ln : Int → Int} {mem : Int → Int → Int} {sz : Nat} (p : Int) (q n c am t : Int) (hkp : kd p = 10) (hp0 : 0 ≤ p) : MT l g yX8_init cX8_init 6 none 1 0 0 [(2, p), (0, q), (0, n), (0, c), (0, am), (0, t)] kd ln mem sz (pMV (fun mem' => (mem' = set2 (set2 (set2 (set2 (set2 (set2 mem p 0 q) p 1 n) p 2 c) p 3 am) p 4 t) p 5 (-1))) kd ln sz) := by
  refine MT_of hG (by decide +kernel) (Nat.le_of_ble_eq_true rfl) (fun z hF hr hn => ?_)
  refine jblk hF [(.aload_n 0, 1)] (by decide +kernel) (pc' := 1) (lo' := [(0, (2, p)), (1, (0, q)), (2, (0, n)), (3, (0, c)), (4, (0, am)), (5, (0, t))]) (st' := [(2, p)]) rfl ?_
  refine jobj hF (by omega) wd_900 wd_133 wd_objcode (by decide +kernel) (by decide) ?_
  refine jblk hF [(.aload_n 0, 1), (.iload_n 1, 1)] (by decide +kernel) (pc' := 6) (lo' := [(0, (2, p)), (1, (0, q)), (2, (0, n)), (3, (0, c)), (4, (0, am)), (5, (0, t))]) (st' := [(0, q), (2, p)]) rfl ?_
  refine jputF hF hn 9 0 0 0 rfl (by decide) (by decide) rfl wd_901 (by decide +kernel) rfl rfl (Or.inl rfl) (by first | assumption | omega) (fun h => by cases h) ?_
  refine jblk hF [(.aload_n 0, 1), (.iload_n 2, 1)] (by decide +kernel) (pc' := 11) (lo' := [(0, (2, p)), (1, (0, q)), (2, (0, n)), (3, (0, c)), (4, (0, am)), (5, (0, t))]) (st' := [(0, n), (2, p)]) rfl ?_
  refine jputF hF hn 9 1 0 1 rfl (by decide) (by decide) rfl wd_903 (by decide +kernel) rfl rfl (Or.inl rfl) (by first | assumption | omega) (fun h => by cases h) ?_
  refine jblk hF [(.aload_n 0, 1), (.iload_n 3, 1)] (by decide +kernel) (pc' := 16) (lo' := [(0, (2, p)), (1, (0, q)), (2, (0, n)), (3, (0, c)), (4, (0, am)), (5, (0, t))]) (st' := [(0, c), (2, p)]) rfl ?_
  refine jputF hF hn 9 2 0 2 rfl (by decide) (by decide) rfl wd_906 (by decide +kernel) rfl rfl (Or.inl rfl) (by first | assumption | omega) (fun h => by cases h) ?_
  refine jblk hF [(.aload_n 0, 1), (.iload 4, 2)] (by decide +kernel) (pc' := 22) (lo' := [(0, (2, p)), (1, (0, q)), (2, (0, n)), (3, (0, c)), (4, (0, am)), (5, (0, t))]) (st' := [(0, am), (2, p)]) rfl ?_
  refine jputF hF hn 9 3 0 3 rfl (by decide) (by decide) rfl wd_909 (by decide +kernel) rfl rfl (Or.inl rfl) (by first | assumption | omega) (fun h => by cases h) ?_
  refine jblk hF [(.aload_n 0, 1), (.iload 5, 2)] (by decide +kernel) (pc' := 28) (lo' := [(0, (2, p)), (1, (0, q)), (2, (0, n)), (3, (0, c)), (4, (0, am)), (5, (0, t))]) (st' := [(0, t), (2, p)]) rfl ?_
  refine jputF hF hn 9 4 0 4 rfl (by decide) (by decide) rfl wd_912 (by decide +kernel) rfl rfl (Or.inl rfl) (by first | assumption | omega) (fun h => by cases h) ?_
  refine jblk hF [(.aload_n 0, 1), (.iconst (-1), 1)] (by decide +kernel) (pc' := 33) (lo' := [(0, (2, p)), (1, (0, q)), (2, (0, n)), (3, (0, c)), (4, (0, am)), (5, (0, t))]) (st' := [(0, (-1)), (2, p)]) rfl ?_
  refine jput hF 9 5 0 5 rfl (by decide) (by decide) rfl wd_913 (by decide +kernel) rfl (Or.inl rfl) (by first | assumption | omega) (fun h => by cases h) ?_
  refine jvret hF hr (by decide +kernel) ?_
  exact lMV (by rfl)
set_option maxHeartbeats 4000000 in
set_option maxRecDepth 100000 in
theorem c_X7_init {l : Launch} {g : GP} (hG : GH g) {kd : Int → Nat} {ln : Int → Int} {mem : Int → Int → Int} {sz : Nat} (p : Int) (k : Int) (hkp : kd p = 9) (hp0 : 0 ≤ p) (hps : p < sz) : MT l g yX7_init cX7_init 2 none 1 1 40 [(2, p), (0, k)] kd ln mem sz (pXV (fun kd' ln' mem' sz' => (sz' = sz + 1 ∧ mem' p 0 = k ∧ mem' p 1 = sz ∧ mem' p 2 = 0 ∧ kd' sz = 21 ∧ ln' sz = 40 ∧ (∀ j : Int, mem' sz j = 0) ∧ ∀ b j : Int, b ≠ p → b ≠ sz → mem' b j = mem b j)) kd ln sz) := by
  refine MT_of hG (by decide +kernel) (Nat.le_of_ble_eq_true rfl) (fun z hF hr hn => ?_)
  refine jblk hF [(.aload_n 0, 1)] (by decide +kernel) (pc' := 1) (lo' := [(0, (2, p)), (1, (0, k))]) (st' := [(2, p)]) rfl ?_
  refine jobj hF (by omega) wd_1240 wd_133 wd_objcode (by decide +kernel) (by decide) ?_
  refine jblk hF [(.aload_n 0, 1), (.iload_n 1, 1)] (by decide +kernel) (pc' := 6) (lo' := [(0, (2, p)), (1, (0, k))]) (st' := [(0, k), (2, p)]) rfl ?_
  refine jputF hF hn 8 0 0 0 rfl (by decide) (by decide) rfl wd_1241 (by decide +kernel) rfl rfl (Or.inl rfl) (by first | assumption | omega) (fun h => by cases h) ?_
  refine jblk hF [(.aload_n 0, 1), (.bipush 40, 2)] (by decide +kernel) (pc' := 12) (lo' := [(0, (2, p)), (1, (0, k))]) (st' := [(0, 40), (2, p)]) rfl ?_
  refine jnewa hF (at' := .long) 1 (by decide) rfl wd_210 (by decide +kernel) (by omega) (by omega) ⟨Nat.le_of_ble_eq_true rfl, Nat.le_of_ble_eq_true rfl⟩ ?_
  obtain ⟨kd_1, hkd_1⟩ : ∃ q : Int → Nat, q = upK kd ((sz : Nat) : Int) (21) := ⟨_, rfl⟩
  obtain ⟨ln_1, hln_1⟩ : ∃ q : Int → Int, q = upL ln ((sz : Nat) : Int) 40 := ⟨_, rfl⟩
  obtain ⟨m_1, hm_1⟩ : ∃ q : Int → Int → Int, q = newA 0 (set2 mem p 0 k) ((sz : Nat) : Int) := ⟨_, rfl⟩
  obtain ⟨sz_1, hsz_1⟩ : ∃ q : Nat, q = sz + 1 := ⟨_, rfl⟩
  obtain ⟨a_1, ha_1⟩ : ∃ q : Int, q = ((sz : Nat) : Int) := ⟨_, rfl⟩
  rw [← hkd_1, ← hln_1, ← hm_1, ← hsz_1]
  rw [← ha_1]
  have hk_1 : kd_1 a_1 = 21 := by rw [ha_1, hkd_1]; exact if_pos rfl
  have hl_1 : ln_1 a_1 = 40 := by rw [ha_1, hln_1]; exact if_pos rfl
  have hE_1 : EXT kd ln sz kd_1 ln_1 sz_1 := by rw [hsz_1, hkd_1, hln_1]; exact EXT.a _ _
  have hEE_1 : EXT kd ln sz kd_1 ln_1 sz_1 := (EXT.rf).tr hE_1
  have hmo_1 : ∀ b j : Int, b ≠ a_1 → m_1 b j = (set2 mem p 0 k) b j := fun b j q => by rw [hm_1]; exact newA_o j (by rw [← ha_1]; exact q)
  have hmn_1 : ∀ j : Int, m_1 a_1 j = 0 := fun j => by rw [hm_1, ha_1]; exact newA_s j
  have hmoA := hmo_1
  have hmnA := hmn_1
  have hEA := hE_1
  have hkA := hk_1
  have haA := ha_1
  have hszA := hsz_1
  have hEEA := hEE_1
  have hlA := hl_1
  have hkq := (hEA.2 p (by omega)).1.trans hkp
  refine jputF hF hn 8 1 2 1 rfl (by decide) (by decide) rfl wd_1242 (by decide +kernel) rfl rfl (Or.inr (Or.inr (Or.inr (Or.inr ⟨_, rfl⟩)))) (by first | assumption | omega) (fun h => by cases h) ?_
  refine jblk hF [(.aload_n 0, 1), (.iconst 0, 1)] (by decide +kernel) (pc' := 19) (lo' := [(0, (2, p)), (1, (0, k))]) (st' := [(0, 0), (2, p)]) rfl ?_
  refine jput hF 8 2 0 2 rfl (by decide) (by decide) rfl wd_1244 (by decide +kernel) rfl (Or.inr (Or.inl rfl)) (by first | assumption | omega) (fun _ => by omega) ?_
  refine jwiden (k := 1) (n := 40) (Nat.le_of_ble_eq_true rfl) (Nat.le_of_ble_eq_true rfl) ?_
  refine jvret hF hr (by decide +kernel) ?_
  exact ⟨rfl, hEE_1, (by (refine ⟨rfl, ?_, ?_, s2_s, hkA, hlA, fun j => ?_, fun b j q1 q2 => ?_⟩; (rw [s2_k (by decide), s2_k (by decide), hmoA p 0 (by omega), s2_s]); (rw [s2_k (by decide), s2_s]); (rw [s2_a (by omega), s2_a (by omega)]; exact hmnA j); (rw [s2_a q1, s2_a q1, hmoA b j q2, s2_a q1])))⟩
set_option maxHeartbeats 4000000 in
set_option maxRecDepth 100000 in
theorem c_X9_init {l : Launch} {g : GP} (hG : GH g) {kd : Int → Nat} {ln : Int → Int} {mem : Int → Int → Int} {sz : Nat} (p : Int) (pg : Int) (hkp : kd p = 11) (hp0 : 0 ≤ p) (hps : p < sz) : MT l g yX9_init cX9_init 2 none 1 1 40 [(2, p), (0, pg)] kd ln mem sz (pXV (fun kd' ln' mem' sz' => (sz' = sz + 1 ∧ mem' p 0 = pg ∧ mem' p 1 = sz ∧ kd' sz = 21 ∧ ln' sz = 40 ∧ (∀ j : Int, mem' sz j = 0) ∧ ∀ b j : Int, b ≠ p → b ≠ sz → mem' b j = mem b j)) kd ln sz) := by
  refine MT_of hG (by decide +kernel) (Nat.le_of_ble_eq_true rfl) (fun z hF hr hn => ?_)
  refine jblk hF [(.aload_n 0, 1)] (by decide +kernel) (pc' := 1) (lo' := [(0, (2, p)), (1, (0, pg))]) (st' := [(2, p)]) rfl ?_
  refine jobj hF (by omega) wd_1169 wd_133 wd_objcode (by decide +kernel) (by decide) ?_
  refine jblk hF [(.aload_n 0, 1), (.iload_n 1, 1)] (by decide +kernel) (pc' := 6) (lo' := [(0, (2, p)), (1, (0, pg))]) (st' := [(0, pg), (2, p)]) rfl ?_
  refine jputF hF hn 10 0 0 0 rfl (by decide) (by decide) rfl wd_1170 (by decide +kernel) rfl rfl (Or.inl rfl) (by first | assumption | omega) (fun h => by cases h) ?_
  refine jblk hF [(.aload_n 0, 1), (.bipush 40, 2)] (by decide +kernel) (pc' := 12) (lo' := [(0, (2, p)), (1, (0, pg))]) (st' := [(0, 40), (2, p)]) rfl ?_
  refine jnewa hF (at' := .long) 1 (by decide) rfl wd_210 (by decide +kernel) (by omega) (by omega) ⟨Nat.le_of_ble_eq_true rfl, Nat.le_of_ble_eq_true rfl⟩ ?_
  obtain ⟨kd_1, hkd_1⟩ : ∃ q : Int → Nat, q = upK kd ((sz : Nat) : Int) (21) := ⟨_, rfl⟩
  obtain ⟨ln_1, hln_1⟩ : ∃ q : Int → Int, q = upL ln ((sz : Nat) : Int) 40 := ⟨_, rfl⟩
  obtain ⟨m_1, hm_1⟩ : ∃ q : Int → Int → Int, q = newA 0 (set2 mem p 0 pg) ((sz : Nat) : Int) := ⟨_, rfl⟩
  obtain ⟨sz_1, hsz_1⟩ : ∃ q : Nat, q = sz + 1 := ⟨_, rfl⟩
  obtain ⟨a_1, ha_1⟩ : ∃ q : Int, q = ((sz : Nat) : Int) := ⟨_, rfl⟩
  rw [← hkd_1, ← hln_1, ← hm_1, ← hsz_1]
  rw [← ha_1]
  have hk_1 : kd_1 a_1 = 21 := by rw [ha_1, hkd_1]; exact if_pos rfl
  have hl_1 : ln_1 a_1 = 40 := by rw [ha_1, hln_1]; exact if_pos rfl
  have hE_1 : EXT kd ln sz kd_1 ln_1 sz_1 := by rw [hsz_1, hkd_1, hln_1]; exact EXT.a _ _
  have hEE_1 : EXT kd ln sz kd_1 ln_1 sz_1 := (EXT.rf).tr hE_1
  have hmo_1 : ∀ b j : Int, b ≠ a_1 → m_1 b j = (set2 mem p 0 pg) b j := fun b j q => by rw [hm_1]; exact newA_o j (by rw [← ha_1]; exact q)
  have hmn_1 : ∀ j : Int, m_1 a_1 j = 0 := fun j => by rw [hm_1, ha_1]; exact newA_s j
  have hmoA := hmo_1
  have hmnA := hmn_1
  have hEA := hE_1
  have hkA := hk_1
  have haA := ha_1
  have hszA := hsz_1
  have hEEA := hEE_1
  have hlA := hl_1
  have hkq := (hEA.2 p (by omega)).1.trans hkp
  refine jputF hF hn 10 1 2 1 rfl (by decide) (by decide) rfl wd_1172 (by decide +kernel) rfl rfl (Or.inr (Or.inr (Or.inr (Or.inr ⟨_, rfl⟩)))) (by first | assumption | omega) (fun h => by cases h) ?_
  refine jwiden (k := 1) (n := 40) (Nat.le_of_ble_eq_true rfl) (Nat.le_of_ble_eq_true rfl) ?_
  refine jvret hF hr (by decide +kernel) ?_
  exact ⟨rfl, hEE_1, (by (refine ⟨rfl, ?_, ?_, hkA, hlA, fun j => ?_, fun b j q1 q2 => ?_⟩; (rw [s2_k (by decide), hmoA p 0 (by omega), s2_s]); (exact s2_s); (rw [s2_a (by omega)]; exact hmnA j); (rw [s2_a q1, hmoA b j q2, s2_a q1])))⟩
set_option maxHeartbeats 4000000 in
set_option maxRecDepth 100000 in
theorem c_X10_init {l : Launch} {g : GP} (hG : GH g) {kd : Int → Nat} {ln : Int → Int} {mem : Int → Int → Int} {sz : Nat} (p : Int) (n : Int) (hkp : kd p = 12) (hp0 : 0 ≤ p) (hps : p < sz) (hn0 : 0 ≤ n ∧ n ≤ 160) : MT l g yX10_init cX10_init 2 none 1 1 160 [(2, p), (0, n)] kd ln mem sz (pXV (fun kd' ln' mem' sz' => (sz' = sz + 1 ∧ mem' p 0 = sz ∧ mem' p 1 = 0 ∧ kd' sz = 20 ∧ ln' sz = n ∧ (∀ j : Int, mem' sz j = 0) ∧ ∀ b j : Int, b ≠ p → b ≠ sz → mem' b j = mem b j)) kd ln sz) := by
  refine MT_of hG (by decide +kernel) (Nat.le_of_ble_eq_true rfl) (fun z hF hr hn => ?_)
  refine jblk hF [(.aload_n 0, 1)] (by decide +kernel) (pc' := 1) (lo' := [(0, (2, p)), (1, (0, n))]) (st' := [(2, p)]) rfl ?_
  refine jobj hF (by omega) wd_143 wd_133 wd_objcode (by decide +kernel) (by decide) ?_
  refine jblk hF [(.aload_n 0, 1), (.iconst 0, 1), (.iload_n 1, 1)] (by decide +kernel) (pc' := 7) (lo' := [(0, (2, p)), (1, (0, n))]) (st' := [(0, n), (0, 0), (2, p)]) rfl ?_
  refine jcallS hF (c_J9_max_7cf53 hG 0 n (by decide) (by omega)) MW_J9_max_7cf53 wd_144 wd_145 (by decide +kernel) [(2, p)] rfl rfl (by decide) (Nat.le_of_ble_eq_true rfl) (by decide) (kV ?_)
  refine jnewa hF (at' := .int) 0 (by decide) rfl wd_157 (by decide +kernel) (by (split <;> omega)) (by (split <;> omega)) ⟨Nat.le_of_ble_eq_true rfl, by first | exact Nat.le_of_ble_eq_true rfl | (show 0 + 0 + Int.toNat _ ≤ 160; split <;> omega)⟩ ?_
  obtain ⟨kd_1, hkd_1⟩ : ∃ q : Int → Nat, q = upK kd ((sz : Nat) : Int) (20) := ⟨_, rfl⟩
  obtain ⟨ln_1, hln_1⟩ : ∃ q : Int → Int, q = upL ln ((sz : Nat) : Int) (if 0 < n then n else 0) := ⟨_, rfl⟩
  obtain ⟨m_1, hm_1⟩ : ∃ q : Int → Int → Int, q = newA 0 mem ((sz : Nat) : Int) := ⟨_, rfl⟩
  obtain ⟨sz_1, hsz_1⟩ : ∃ q : Nat, q = sz + 1 := ⟨_, rfl⟩
  obtain ⟨a_1, ha_1⟩ : ∃ q : Int, q = ((sz : Nat) : Int) := ⟨_, rfl⟩
  rw [← hkd_1, ← hln_1, ← hm_1, ← hsz_1]
  rw [← ha_1]
  have hk_1 : kd_1 a_1 = 20 := by rw [ha_1, hkd_1]; exact if_pos rfl
  have hl_1 : ln_1 a_1 = if 0 < n then n else 0 := by rw [ha_1, hln_1]; exact if_pos rfl
  have hE_1 : EXT kd ln sz kd_1 ln_1 sz_1 := by rw [hsz_1, hkd_1, hln_1]; exact EXT.a _ _
  have hEE_1 : EXT kd ln sz kd_1 ln_1 sz_1 := (EXT.rf).tr hE_1
  have hmo_1 : ∀ b j : Int, b ≠ a_1 → m_1 b j = mem b j := fun b j q => by rw [hm_1]; exact newA_o j (by rw [← ha_1]; exact q)
  have hmn_1 : ∀ j : Int, m_1 a_1 j = 0 := fun j => by rw [hm_1, ha_1]; exact newA_s j
  have hmoA := hmo_1
  have hmnA := hmn_1
  have hEA := hE_1
  have hkA := hk_1
  have haA := ha_1
  have hszA := hsz_1
  have hEEA := hEE_1
  have hlA := hl_1
  have hkq := (hEA.2 p (by omega)).1.trans hkp
  refine jputF hF hn 11 0 2 0 rfl (by decide) (by decide) rfl wd_147 (by decide +kernel) rfl rfl (Or.inr (Or.inr (Or.inr (Or.inr ⟨_, rfl⟩)))) (by first | assumption | omega) (fun h => by cases h) ?_
  refine jblk hF [(.aload_n 0, 1), (.iconst 0, 1)] (by decide +kernel) (pc' := 17) (lo' := [(0, (2, p)), (1, (0, n))]) (st' := [(0, 0), (2, p)]) rfl ?_
  refine jput hF 11 1 0 1 rfl (by decide) (by decide) rfl wd_149 (by decide +kernel) rfl (Or.inl rfl) (by first | assumption | omega) (fun h => by cases h) ?_
  refine jwiden (k := 1) (n := 160) (Nat.le_of_ble_eq_true rfl) (by first | exact Nat.le_of_ble_eq_true rfl | (show 0 + 0 + Int.toNat _ ≤ 160; split <;> omega)) ?_
  refine jvret hF hr (by decide +kernel) ?_
  exact ⟨rfl, hEE_1, (by (refine ⟨rfl, ?_, s2_s, hkA, by (rw [hlA]; split <;> omega), fun j => ?_, fun b j q1 q2 => ?_⟩; (rw [s2_k (by decide), s2_s]); (rw [s2_a (by omega), s2_a (by omega)]; exact hmnA j); (rw [s2_a q1, s2_a q1, hmoA b j q2])))⟩
set_option maxHeartbeats 4000000 in
set_option maxRecDepth 100000 in
theorem c_X8_isMendedBy {l : Launch} {g : GP} (hG : GH g) {kd : Int → Nat} {ln : Int → Int} {mem : Int → Int → Int} {sz : Nat} (p : Int) (q : Int) (hkp : kd p = 10) (h5 : InI (mem p 5)) (h_q : InI q) : MT l g yX8_isMendedBy cX8_isMendedBy 2 (some .boolean) 0 0 0 [(2, p), (0, q)] kd ln mem sz (pB (mem p 5 ≠ -1 ∧ mem p 5 ≤ q) kd ln mem sz) := by
  refine MT_of hG (by decide +kernel) (Nat.le_of_ble_eq_true rfl) (fun z hF hr hn => ?_)
  refine jblk hF [(.aload_n 0, 1)] (by decide +kernel) (pc' := 1) (lo' := [(0, (2, p)), (1, (0, q))]) (st' := [(2, p)]) rfl ?_
  refine jget hF 9 5 0 5 rfl (by decide) (by decide) rfl wd_913 (by decide +kernel) (by first | assumption | omega) ?_
  refine jblk hF [(.iconst (-1), 1)] (by decide +kernel) (pc' := 5) (lo' := [(0, (2, p)), (1, (0, q))]) (st' := [(0, (-1)), (0, mem p 5)]) rfl ?_
  refine jicmp_eq hF (off := 15) 20 (by decide +kernel) (by decide) (by omega) (by decide) (fun h_1 => ?_) (fun h_1 => ?_)
  · refine jblk hF [(.iconst 0, 1)] (by decide +kernel) (pc' := 21) (lo' := [(0, (2, p)), (1, (0, q))]) (st' := [(0, 0)]) rfl ?_
    refine jzret hF hr (by omega) (by decide +kernel) ?_
    exact lB0 (by omega)
  · refine jblk hF [(.aload_n 0, 1)] (by decide +kernel) (pc' := 9) (lo' := [(0, (2, p)), (1, (0, q))]) (st' := [(2, p)]) rfl ?_
    refine jget hF 9 5 0 5 rfl (by decide) (by decide) rfl wd_913 (by decide +kernel) (by first | assumption | omega) ?_
    refine jblk hF [(.iload_n 1, 1)] (by decide +kernel) (pc' := 13) (lo' := [(0, (2, p)), (1, (0, q))]) (st' := [(0, q), (0, mem p 5)]) rfl ?_
    refine jicmp_gt hF (off := 7) 20 (by decide +kernel) (by decide) (by omega) (by omega) (fun h_2 => ?_) (fun h_2 => ?_)
    · refine jblk hF [(.iconst 0, 1)] (by decide +kernel) (pc' := 21) (lo' := [(0, (2, p)), (1, (0, q))]) (st' := [(0, 0)]) rfl ?_
      refine jzret hF hr (by omega) (by decide +kernel) ?_
      exact lB0 (by omega)
    · refine jblk hF [(.iconst 1, 1)] (by decide +kernel) (pc' := 17) (lo' := [(0, (2, p)), (1, (0, q))]) (st' := [(0, 1)]) rfl ?_
      refine jgoto hF (off := 4) 21 (by decide +kernel) (by decide) ?_
      refine jzret hF hr (by omega) (by decide +kernel) ?_
      exact lB1 (by omega)
set_option maxHeartbeats 4000000 in
set_option maxRecDepth 100000 in
theorem c_X8_isKnownIn {l : Launch} {g : GP} (hG : GH g) {kd : Int → Nat} {ln : Int → Int} {mem : Int → Int → Int} {sz : Nat} (p : Int) (q : Int) (hkp : kd p = 10) (h5 : InI (mem p 5) ∧ InI (mem p 4)) (h_q : InI q) : MT l g yX8_isKnownIn cX8_isKnownIn 2 (some .boolean) 1 0 0 [(2, p), (0, q)] kd ln mem sz (pB (mem p 4 ≤ q ∧ ¬ (mem p 5 ≠ -1 ∧ mem p 5 ≤ q)) kd ln mem sz) := by
  refine MT_of hG (by decide +kernel) (Nat.le_of_ble_eq_true rfl) (fun z hF hr hn => ?_)
  refine jblk hF [(.aload_n 0, 1)] (by decide +kernel) (pc' := 1) (lo' := [(0, (2, p)), (1, (0, q))]) (st' := [(2, p)]) rfl ?_
  refine jget hF 9 4 0 4 rfl (by decide) (by decide) rfl wd_912 (by decide +kernel) (by first | assumption | omega) ?_
  refine jblk hF [(.iload_n 1, 1)] (by decide +kernel) (pc' := 5) (lo' := [(0, (2, p)), (1, (0, q))]) (st' := [(0, q), (0, mem p 4)]) rfl ?_
  refine jicmp_gt hF (off := 15) 20 (by decide +kernel) (by decide) (by omega) (by omega) (fun h_1 => ?_) (fun h_1 => ?_)
  · refine jblk hF [(.iconst 0, 1)] (by decide +kernel) (pc' := 21) (lo' := [(0, (2, p)), (1, (0, q))]) (st' := [(0, 0)]) rfl ?_
    refine jzret hF hr (by omega) (by decide +kernel) ?_
    exact lB0 (by omega)
  · refine jblk hF [(.aload_n 0, 1), (.iload_n 1, 1)] (by decide +kernel) (pc' := 10) (lo' := [(0, (2, p)), (1, (0, q))]) (st' := [(0, q), (2, p)]) rfl ?_
    refine jcallV hF (c_X8_isMendedBy hG p q (by first | assumption | omega) (by omega) (by omega)) MW_X8_isMendedBy 9 (by decide) (by first | assumption | omega) wd_948 wd_949 wd_950 (by decide +kernel) [] rfl rfl (by decide) (Nat.le_of_ble_eq_true rfl) (by decide) (kB (fun h_2 => ?_) (fun h_2 => ?_))
    · refine jif_ne hF (off := 7) 20 (by decide +kernel) (by decide) (by decide) (fun _ => ?_) (fun h => absurd h (by decide))
      refine jblk hF [(.iconst 0, 1)] (by decide +kernel) (pc' := 21) (lo' := [(0, (2, p)), (1, (0, q))]) (st' := [(0, 0)]) rfl ?_
      refine jzret hF hr (by omega) (by decide +kernel) ?_
      exact lB0 (by omega)
    · refine jif_ne hF (off := 7) 20 (by decide +kernel) (by decide) (by decide) (fun h => absurd h (by decide)) (fun _ => ?_)
      refine jblk hF [(.iconst 1, 1)] (by decide +kernel) (pc' := 17) (lo' := [(0, (2, p)), (1, (0, q))]) (st' := [(0, 1)]) rfl ?_
      refine jgoto hF (off := 4) 21 (by decide +kernel) (by decide) ?_
      refine jzret hF hr (by omega) (by decide +kernel) ?_
      exact lB1 (by omega)
set_option maxHeartbeats 4000000 in
set_option maxRecDepth 100000 in
theorem c_X11_within {l : Launch} {g : GP} (hG : GH g) {kd : Int → Nat} {ln : Int → Int} {mem : Int → Int → Int} {sz : Nat} (v lo hi : Int) (h_v : InI v) (h_lo : InI lo) (h_hi : InI hi) : MT l g yX11_within cX11_within 3 (some .boolean) 0 0 0 [(0, v), (0, lo), (0, hi)] kd ln mem sz (pB (lo ≤ v ∧ v ≤ hi) kd ln mem sz) := by
  refine MT_of hG (by decide +kernel) (Nat.le_of_ble_eq_true rfl) (fun z hF hr hn => ?_)
  refine jblk hF [(.iload_n 0, 1), (.iload_n 1, 1)] (by decide +kernel) (pc' := 2) (lo' := [(0, (0, v)), (1, (0, lo)), (2, (0, hi))]) (st' := [(0, lo), (0, v)]) rfl ?_
  refine jicmp_lt hF (off := 12) 14 (by decide +kernel) (by decide) (by omega) (by omega) (fun h_1 => ?_) (fun h_1 => ?_)
  · refine jblk hF [(.iconst 0, 1)] (by decide +kernel) (pc' := 15) (lo' := [(0, (0, v)), (1, (0, lo)), (2, (0, hi))]) (st' := [(0, 0)]) rfl ?_
    refine jzret hF hr (by omega) (by decide +kernel) ?_
    exact lB0 (by omega)
  · refine jblk hF [(.iload_n 0, 1), (.iload_n 2, 1)] (by decide +kernel) (pc' := 7) (lo' := [(0, (0, v)), (1, (0, lo)), (2, (0, hi))]) (st' := [(0, hi), (0, v)]) rfl ?_
    refine jicmp_gt hF (off := 7) 14 (by decide +kernel) (by decide) (by omega) (by omega) (fun h_2 => ?_) (fun h_2 => ?_)
    · refine jblk hF [(.iconst 0, 1)] (by decide +kernel) (pc' := 15) (lo' := [(0, (0, v)), (1, (0, lo)), (2, (0, hi))]) (st' := [(0, 0)]) rfl ?_
      refine jzret hF hr (by omega) (by decide +kernel) ?_
      exact lB0 (by omega)
    · refine jblk hF [(.iconst 1, 1)] (by decide +kernel) (pc' := 11) (lo' := [(0, (0, v)), (1, (0, lo)), (2, (0, hi))]) (st' := [(0, 1)]) rfl ?_
      refine jgoto hF (off := 4) 15 (by decide +kernel) (by decide) ?_
      refine jzret hF hr (by omega) (by decide +kernel) ?_
      exact lB1 (by omega)
set_option maxHeartbeats 4000000 in
set_option maxRecDepth 100000 in
theorem c_X11_isHand {l : Launch} {g : GP} (hG : GH g) {kd : Int → Nat} {ln : Int → Int} {mem : Int → Int → Int} {sz : Nat} (h : Int) (h_h : InI h) : MT l g yX11_isHand cX11_isHand 1 (some .boolean) 1 0 0 [(0, h)] kd ln mem sz (pB (0 ≤ h ∧ h ≤ 7) kd ln mem sz) := by
  refine MT_of hG (by decide +kernel) (Nat.le_of_ble_eq_true rfl) (fun z hF hr hn => ?_)
  refine jblk hF [(.iload_n 0, 1), (.iconst 0, 1), (.bipush 7, 2)] (by decide +kernel) (pc' := 4) (lo' := [(0, (0, h))]) (st' := [(0, 7), (0, 0), (0, h)]) rfl ?_
  refine jcallS hF (c_X11_within hG h 0 7 (by omega) (by decide) (by decide)) MW_X11_within wd_391 wd_392 (by decide +kernel) [] rfl rfl (by decide) (Nat.le_of_ble_eq_true rfl) (by decide) (kB (fun h_1 => ?_) (fun h_1 => ?_))
  · refine jzret hF hr (by omega) (by decide +kernel) ?_
    exact lB1 (by omega)
  · refine jzret hF hr (by omega) (by decide +kernel) ?_
    exact lB0 (by omega)
set_option maxHeartbeats 4000000 in
set_option maxRecDepth 100000 in
theorem c_X11_isLabel {l : Launch} {g : GP} (hG : GH g) {kd : Int → Nat} {ln : Int → Int} {mem : Int → Int → Int} {sz : Nat} (c : Int) (h_c : InI c) : MT l g yX11_isLabel cX11_isLabel 1 (some .boolean) 0 0 0 [(0, c)] kd ln mem sz (pB (c = 97 ∨ c = 111 ∨ c = 112 ∨ c = 99 ∨ c = 109 ∨ c = 102 ∨ c = 104 ∨ c = 115 ∨ c = 107 ∨ c = 116) kd ln mem sz) := by
  refine MT_of hG (by decide +kernel) (Nat.le_of_ble_eq_true rfl) (fun z hF hr hn => ?_)
  refine jblk hF [(.iload_n 0, 1)] (by decide +kernel) (pc' := 1) (lo' := [(0, (0, c))]) (st' := [(0, c)]) rfl ?_
  by_cases h_1 : c = 97
  · refine jtabIn hF (dflt := 97) (lo' := 97) (hi := 116) (offs := #[95, 97, 95, 97, 97, 95, 97, 95, 97, 97, 95, 97, 95, 97, 95, 95, 97, 97, 95, 95]) (len := 95) 97 95 96 (by decide +kernel) h_1 (by decide) (by decide) (by decide) rfl (by decide) ?_
    refine jblk hF [(.iconst 1, 1)] (by decide +kernel) (pc' := 97) (lo' := [(0, (0, c))]) (st' := [(0, 1)]) rfl ?_
    refine jzret hF hr (by omega) (by decide +kernel) ?_
    exact lB1 (by omega)
  by_cases h_2 : c = 98
  · refine jtabIn hF (dflt := 97) (lo' := 97) (hi := 116) (offs := #[95, 97, 95, 97, 97, 95, 97, 95, 97, 97, 95, 97, 95, 97, 95, 95, 97, 97, 95, 95]) (len := 95) 98 97 98 (by decide +kernel) h_2 (by decide) (by decide) (by decide) rfl (by decide) ?_
    refine jblk hF [(.iconst 0, 1)] (by decide +kernel) (pc' := 99) (lo' := [(0, (0, c))]) (st' := [(0, 0)]) rfl ?_
    refine jzret hF hr (by omega) (by decide +kernel) ?_
    exact lB0 (by omega)
  by_cases h_3 : c = 99
  · refine jtabIn hF (dflt := 97) (lo' := 97) (hi := 116) (offs := #[95, 97, 95, 97, 97, 95, 97, 95, 97, 97, 95, 97, 95, 97, 95, 95, 97, 97, 95, 95]) (len := 95) 99 95 96 (by decide +kernel) h_3 (by decide) (by decide) (by decide) rfl (by decide) ?_
    refine jblk hF [(.iconst 1, 1)] (by decide +kernel) (pc' := 97) (lo' := [(0, (0, c))]) (st' := [(0, 1)]) rfl ?_
    refine jzret hF hr (by omega) (by decide +kernel) ?_
    exact lB1 (by omega)
  by_cases h_4 : c = 100
  · refine jtabIn hF (dflt := 97) (lo' := 97) (hi := 116) (offs := #[95, 97, 95, 97, 97, 95, 97, 95, 97, 97, 95, 97, 95, 97, 95, 95, 97, 97, 95, 95]) (len := 95) 100 97 98 (by decide +kernel) h_4 (by decide) (by decide) (by decide) rfl (by decide) ?_
    refine jblk hF [(.iconst 0, 1)] (by decide +kernel) (pc' := 99) (lo' := [(0, (0, c))]) (st' := [(0, 0)]) rfl ?_
    refine jzret hF hr (by omega) (by decide +kernel) ?_
    exact lB0 (by omega)
  by_cases h_5 : c = 101
  · refine jtabIn hF (dflt := 97) (lo' := 97) (hi := 116) (offs := #[95, 97, 95, 97, 97, 95, 97, 95, 97, 97, 95, 97, 95, 97, 95, 95, 97, 97, 95, 95]) (len := 95) 101 97 98 (by decide +kernel) h_5 (by decide) (by decide) (by decide) rfl (by decide) ?_
    refine jblk hF [(.iconst 0, 1)] (by decide +kernel) (pc' := 99) (lo' := [(0, (0, c))]) (st' := [(0, 0)]) rfl ?_
    refine jzret hF hr (by omega) (by decide +kernel) ?_
    exact lB0 (by omega)
  by_cases h_6 : c = 102
  · refine jtabIn hF (dflt := 97) (lo' := 97) (hi := 116) (offs := #[95, 97, 95, 97, 97, 95, 97, 95, 97, 97, 95, 97, 95, 97, 95, 95, 97, 97, 95, 95]) (len := 95) 102 95 96 (by decide +kernel) h_6 (by decide) (by decide) (by decide) rfl (by decide) ?_
    refine jblk hF [(.iconst 1, 1)] (by decide +kernel) (pc' := 97) (lo' := [(0, (0, c))]) (st' := [(0, 1)]) rfl ?_
    refine jzret hF hr (by omega) (by decide +kernel) ?_
    exact lB1 (by omega)
  by_cases h_7 : c = 103
  · refine jtabIn hF (dflt := 97) (lo' := 97) (hi := 116) (offs := #[95, 97, 95, 97, 97, 95, 97, 95, 97, 97, 95, 97, 95, 97, 95, 95, 97, 97, 95, 95]) (len := 95) 103 97 98 (by decide +kernel) h_7 (by decide) (by decide) (by decide) rfl (by decide) ?_
    refine jblk hF [(.iconst 0, 1)] (by decide +kernel) (pc' := 99) (lo' := [(0, (0, c))]) (st' := [(0, 0)]) rfl ?_
    refine jzret hF hr (by omega) (by decide +kernel) ?_
    exact lB0 (by omega)
  by_cases h_8 : c = 104
  · refine jtabIn hF (dflt := 97) (lo' := 97) (hi := 116) (offs := #[95, 97, 95, 97, 97, 95, 97, 95, 97, 97, 95, 97, 95, 97, 95, 95, 97, 97, 95, 95]) (len := 95) 104 95 96 (by decide +kernel) h_8 (by decide) (by decide) (by decide) rfl (by decide) ?_
    refine jblk hF [(.iconst 1, 1)] (by decide +kernel) (pc' := 97) (lo' := [(0, (0, c))]) (st' := [(0, 1)]) rfl ?_
    refine jzret hF hr (by omega) (by decide +kernel) ?_
    exact lB1 (by omega)
  by_cases h_9 : c = 105
  · refine jtabIn hF (dflt := 97) (lo' := 97) (hi := 116) (offs := #[95, 97, 95, 97, 97, 95, 97, 95, 97, 97, 95, 97, 95, 97, 95, 95, 97, 97, 95, 95]) (len := 95) 105 97 98 (by decide +kernel) h_9 (by decide) (by decide) (by decide) rfl (by decide) ?_
    refine jblk hF [(.iconst 0, 1)] (by decide +kernel) (pc' := 99) (lo' := [(0, (0, c))]) (st' := [(0, 0)]) rfl ?_
    refine jzret hF hr (by omega) (by decide +kernel) ?_
    exact lB0 (by omega)
  by_cases h_10 : c = 106
  · refine jtabIn hF (dflt := 97) (lo' := 97) (hi := 116) (offs := #[95, 97, 95, 97, 97, 95, 97, 95, 97, 97, 95, 97, 95, 97, 95, 95, 97, 97, 95, 95]) (len := 95) 106 97 98 (by decide +kernel) h_10 (by decide) (by decide) (by decide) rfl (by decide) ?_
    refine jblk hF [(.iconst 0, 1)] (by decide +kernel) (pc' := 99) (lo' := [(0, (0, c))]) (st' := [(0, 0)]) rfl ?_
    refine jzret hF hr (by omega) (by decide +kernel) ?_
    exact lB0 (by omega)
  by_cases h_11 : c = 107
  · refine jtabIn hF (dflt := 97) (lo' := 97) (hi := 116) (offs := #[95, 97, 95, 97, 97, 95, 97, 95, 97, 97, 95, 97, 95, 97, 95, 95, 97, 97, 95, 95]) (len := 95) 107 95 96 (by decide +kernel) h_11 (by decide) (by decide) (by decide) rfl (by decide) ?_
    refine jblk hF [(.iconst 1, 1)] (by decide +kernel) (pc' := 97) (lo' := [(0, (0, c))]) (st' := [(0, 1)]) rfl ?_
    refine jzret hF hr (by omega) (by decide +kernel) ?_
    exact lB1 (by omega)
  by_cases h_12 : c = 108
  · refine jtabIn hF (dflt := 97) (lo' := 97) (hi := 116) (offs := #[95, 97, 95, 97, 97, 95, 97, 95, 97, 97, 95, 97, 95, 97, 95, 95, 97, 97, 95, 95]) (len := 95) 108 97 98 (by decide +kernel) h_12 (by decide) (by decide) (by decide) rfl (by decide) ?_
    refine jblk hF [(.iconst 0, 1)] (by decide +kernel) (pc' := 99) (lo' := [(0, (0, c))]) (st' := [(0, 0)]) rfl ?_
    refine jzret hF hr (by omega) (by decide +kernel) ?_
    exact lB0 (by omega)
  by_cases h_13 : c = 109
  · refine jtabIn hF (dflt := 97) (lo' := 97) (hi := 116) (offs := #[95, 97, 95, 97, 97, 95, 97, 95, 97, 97, 95, 97, 95, 97, 95, 95, 97, 97, 95, 95]) (len := 95) 109 95 96 (by decide +kernel) h_13 (by decide) (by decide) (by decide) rfl (by decide) ?_
    refine jblk hF [(.iconst 1, 1)] (by decide +kernel) (pc' := 97) (lo' := [(0, (0, c))]) (st' := [(0, 1)]) rfl ?_
    refine jzret hF hr (by omega) (by decide +kernel) ?_
    exact lB1 (by omega)
  by_cases h_14 : c = 110
  · refine jtabIn hF (dflt := 97) (lo' := 97) (hi := 116) (offs := #[95, 97, 95, 97, 97, 95, 97, 95, 97, 97, 95, 97, 95, 97, 95, 95, 97, 97, 95, 95]) (len := 95) 110 97 98 (by decide +kernel) h_14 (by decide) (by decide) (by decide) rfl (by decide) ?_
    refine jblk hF [(.iconst 0, 1)] (by decide +kernel) (pc' := 99) (lo' := [(0, (0, c))]) (st' := [(0, 0)]) rfl ?_
    refine jzret hF hr (by omega) (by decide +kernel) ?_
    exact lB0 (by omega)
  by_cases h_15 : c = 111
  · refine jtabIn hF (dflt := 97) (lo' := 97) (hi := 116) (offs := #[95, 97, 95, 97, 97, 95, 97, 95, 97, 97, 95, 97, 95, 97, 95, 95, 97, 97, 95, 95]) (len := 95) 111 95 96 (by decide +kernel) h_15 (by decide) (by decide) (by decide) rfl (by decide) ?_
    refine jblk hF [(.iconst 1, 1)] (by decide +kernel) (pc' := 97) (lo' := [(0, (0, c))]) (st' := [(0, 1)]) rfl ?_
    refine jzret hF hr (by omega) (by decide +kernel) ?_
    exact lB1 (by omega)
  by_cases h_16 : c = 112
  · refine jtabIn hF (dflt := 97) (lo' := 97) (hi := 116) (offs := #[95, 97, 95, 97, 97, 95, 97, 95, 97, 97, 95, 97, 95, 97, 95, 95, 97, 97, 95, 95]) (len := 95) 112 95 96 (by decide +kernel) h_16 (by decide) (by decide) (by decide) rfl (by decide) ?_
    refine jblk hF [(.iconst 1, 1)] (by decide +kernel) (pc' := 97) (lo' := [(0, (0, c))]) (st' := [(0, 1)]) rfl ?_
    refine jzret hF hr (by omega) (by decide +kernel) ?_
    exact lB1 (by omega)
  by_cases h_17 : c = 113
  · refine jtabIn hF (dflt := 97) (lo' := 97) (hi := 116) (offs := #[95, 97, 95, 97, 97, 95, 97, 95, 97, 97, 95, 97, 95, 97, 95, 95, 97, 97, 95, 95]) (len := 95) 113 97 98 (by decide +kernel) h_17 (by decide) (by decide) (by decide) rfl (by decide) ?_
    refine jblk hF [(.iconst 0, 1)] (by decide +kernel) (pc' := 99) (lo' := [(0, (0, c))]) (st' := [(0, 0)]) rfl ?_
    refine jzret hF hr (by omega) (by decide +kernel) ?_
    exact lB0 (by omega)
  by_cases h_18 : c = 114
  · refine jtabIn hF (dflt := 97) (lo' := 97) (hi := 116) (offs := #[95, 97, 95, 97, 97, 95, 97, 95, 97, 97, 95, 97, 95, 97, 95, 95, 97, 97, 95, 95]) (len := 95) 114 97 98 (by decide +kernel) h_18 (by decide) (by decide) (by decide) rfl (by decide) ?_
    refine jblk hF [(.iconst 0, 1)] (by decide +kernel) (pc' := 99) (lo' := [(0, (0, c))]) (st' := [(0, 0)]) rfl ?_
    refine jzret hF hr (by omega) (by decide +kernel) ?_
    exact lB0 (by omega)
  by_cases h_19 : c = 115
  · refine jtabIn hF (dflt := 97) (lo' := 97) (hi := 116) (offs := #[95, 97, 95, 97, 97, 95, 97, 95, 97, 97, 95, 97, 95, 97, 95, 95, 97, 97, 95, 95]) (len := 95) 115 95 96 (by decide +kernel) h_19 (by decide) (by decide) (by decide) rfl (by decide) ?_
    refine jblk hF [(.iconst 1, 1)] (by decide +kernel) (pc' := 97) (lo' := [(0, (0, c))]) (st' := [(0, 1)]) rfl ?_
    refine jzret hF hr (by omega) (by decide +kernel) ?_
    exact lB1 (by omega)
  by_cases h_20 : c = 116
  · refine jtabIn hF (dflt := 97) (lo' := 97) (hi := 116) (offs := #[95, 97, 95, 97, 97, 95, 97, 95, 97, 97, 95, 97, 95, 97, 95, 95, 97, 97, 95, 95]) (len := 95) 116 95 96 (by decide +kernel) h_20 (by decide) (by decide) (by decide) rfl (by decide) ?_
    refine jblk hF [(.iconst 1, 1)] (by decide +kernel) (pc' := 97) (lo' := [(0, (0, c))]) (st' := [(0, 1)]) rfl ?_
    refine jzret hF hr (by omega) (by decide +kernel) ?_
    exact lB1 (by omega)
  refine jtabOut hF (dflt := 97) (lo' := 97) (hi := 116) (offs := #[95, 97, 95, 97, 97, 95, 97, 95, 97, 97, 95, 97, 95, 97, 95, 95, 97, 97, 95, 95]) (len := 95) 98 (by decide +kernel) (by omega) (by omega) (by decide) ?_
  refine jblk hF [(.iconst 0, 1)] (by decide +kernel) (pc' := 99) (lo' := [(0, (0, c))]) (st' := [(0, 0)]) rfl ?_
  refine jzret hF hr (by omega) (by decide +kernel) ?_
  exact lB0 (by omega)
set_option maxHeartbeats 4000000 in
set_option maxRecDepth 100000 in
theorem c_X11_ten {l : Launch} {g : GP} (hG : GH g) {kd : Int → Nat} {ln : Int → Int} {mem : Int → Int → Int} {sz : Nat} (hK : HK kd ln) (hR : HR mem) (p : Int) (hTN : TNS g) (hp : 0 ≤ p ∧ p ≤ 12) : MT l g yX11_ten cX11_ten 1 (some .long) 0 0 0 [(0, p)] kd ln mem sz (pV (1, 10 ^ p.toNat) kd ln mem sz) := by
  refine MT_of hG (by decide +kernel) (Nat.le_of_ble_eq_true rfl) (fun z hF hr hn => ?_)
  have hl0 := hK.l0
  refine jblk hF [(.iload_n 0, 1)] (by decide +kernel) (pc' := 1) (lo' := [(0, (0, p))]) (st' := [(0, p)]) rfl ?_
  refine jif_lt hF (off := 11) 12 (by decide +kernel) (by decide) (by omega) (fun h_1 => ?_) (fun h_1 => ?_)
  · refine jlconst hF (n := 1) 1 rfl (by decide +kernel) ?_
    refine jgoto hF (off := 8) 21 (by decide +kernel) (by decide) ?_
    refine jlret hF hr (by decide +kernel) ?_
    exact lV (by first | (exfalso; omega) | exact hR.2 p (by omega) (by omega))
  · refine jblk hF [(.iload_n 0, 1)] (by decide +kernel) (pc' := 5) (lo' := [(0, (0, p))]) (st' := [(0, p)]) rfl ?_
    refine jgets hF 0 hTN wd_521 (by decide +kernel) ?_
    show J z g 1 _ _ _ 8 _ ((2, (0 : Int)) :: _) _ _ _ _
    refine jalen hF 1 (by decide) (by decide +kernel) (by exact hK.k0) ?_
    refine jicmp_lt hF (off := 7) 16 (by decide +kernel) (by decide) (by omega) (by omega) (fun h_2 => ?_) (fun h_2 => ?_)
    · refine jgets hF 0 hTN wd_521 (by decide +kernel) ?_
      show J z g 1 _ _ _ 19 _ ((2, (0 : Int)) :: _) _ _ _ _
      refine jblk hF [(.iload_n 0, 1)] (by decide +kernel) (pc' := 20) (lo' := [(0, (0, p))]) (st' := [(0, p), (2, 0)]) rfl ?_
      refine jlald hF (by decide +kernel) (by exact hK.k0) (by omega) (by have := hK.l0; omega) ?_
      refine jlret hF hr (by decide +kernel) ?_
      exact lV (by first | (exfalso; omega) | exact hR.2 p (by omega) (by omega))
    · refine jlconst hF (n := 1) 1 rfl (by decide +kernel) ?_
      refine jgoto hF (off := 8) 21 (by decide +kernel) (by decide) ?_
      refine jlret hF hr (by decide +kernel) ?_
      exact lV (by first | (exfalso; omega) | exact hR.2 p (by omega) (by omega))
set_option maxHeartbeats 4000000 in
set_option maxRecDepth 100000 in
theorem c_X11_unitOf {l : Launch} {g : GP} (hG : GH g) {kd : Int → Nat} {ln : Int → Int} {mem : Int → Int → Int} {sz : Nat} (hK : HK kd ln) (hR : HR mem) (p : Int) (hTN : TNS g) (hp : 0 ≤ p ∧ p ≤ 6) : MT l g yX11_unitOf cX11_unitOf 1 (some .long) 1 0 0 [(0, p)] kd ln mem sz (pV (1, 4 * 10 ^ (6 - p).toNat) kd ln mem sz) := by
  refine MT_of hG (by decide +kernel) (Nat.le_of_ble_eq_true rfl) (fun z hF hr hn => ?_)
  refine jldc2 hF 4 (cst_l wd_531 (by decide)) (by decide +kernel) ?_
  refine jblk hF [(.bipush 6, 2), (.iload_n 0, 1), (.isub, 1)] (by decide +kernel) (pc' := 7) (lo' := [(0, (0, p))]) (st' := [(0, 6 - p), (1, 4)]) rfl ?_
  refine jcallS hF (c_X11_ten hG hK hR (6 - p) (by assumption) (by omega)) MW_X11_ten wd_532 wd_519 (by decide +kernel) [(1, 4)] rfl rfl (by decide) (Nat.le_of_ble_eq_true rfl) (by decide) (kV ?_)
  refine jblk hF [(.lmul, 1)] (by decide +kernel) (pc' := 11) (lo' := [(0, (0, p))]) (st' := [(1, 4 * (10 ^ (6 - p).toNat))]) rfl ?_
  refine jlret hF hr (by decide +kernel) ?_
  exact lV (by rfl)
set_option maxHeartbeats 4000000 in
set_option maxRecDepth 100000 in
theorem c_X11_wholeBy {l : Launch} {g : GP} (hG : GH g) {kd : Int → Nat} {ln : Int → Int} {mem : Int → Int → Int} {sz : Nat} (a b : Int) (hx : InL a) (hy : 1 ≤ b ∧ b ≤ 4611686018427387904) : MT l g yX11_wholeBy cX11_wholeBy 4 (some .long) 1 0 0 [(1, a), (1, b)] kd ln mem sz (pV (1, a / b) kd ln mem sz) := by
  refine MT_of hG (by decide +kernel) (Nat.le_of_ble_eq_true rfl) (fun z hF hr hn => ?_)
  refine jblk hF [(.lload_n 2, 1)] (by decide +kernel) (pc' := 1) (lo' := [(0, (1, a)), (2, (1, b))]) (st' := [(1, b)]) rfl ?_
  refine jlconst hF (n := 0) 0 rfl (by decide +kernel) ?_
  refine jlcmp_le hF (off := 11) 14 (by decide +kernel) (by decide +kernel) (by decide) (by omega) (by decide) (fun h_1 => ?_) (fun h_1 => ?_)
  · refine jlconst hF (n := 0) 0 rfl (by decide +kernel) ?_
    refine jlret hF hr (by decide +kernel) ?_
    exact lV (by first | rfl | (exfalso; omega))
  · refine jblk hF [(.lload_n 0, 1), (.lload_n 2, 1)] (by decide +kernel) (pc' := 8) (lo' := [(0, (1, a)), (2, (1, b))]) (st' := [(1, b), (1, a)]) rfl ?_
    refine jcallS hF (c_J9_floorDiv_f86c9 hG a b (by omega) (by omega)) MW_J9_floorDiv_f86c9 wd_536 wd_537 (by decide +kernel) [] rfl rfl (by decide) (Nat.le_of_ble_eq_true rfl) (by decide) (kV ?_)
    refine jgoto hF (off := 4) 15 (by decide +kernel) (by decide) ?_
    refine jlret hF hr (by decide +kernel) ?_
    exact lV (by first | rfl | (exfalso; omega))
set_option maxHeartbeats 4000000 in
set_option maxRecDepth 100000 in
theorem c_X11_restBy {l : Launch} {g : GP} (hG : GH g) {kd : Int → Nat} {ln : Int → Int} {mem : Int → Int → Int} {sz : Nat} (a b : Int) (hx : InL a) (hy : 1 ≤ b ∧ b ≤ 4611686018427387904) : MT l g yX11_restBy cX11_restBy 4 (some .long) 1 0 0 [(1, a), (1, b)] kd ln mem sz (pV (1, a % b) kd ln mem sz) := by
  refine MT_of hG (by decide +kernel) (Nat.le_of_ble_eq_true rfl) (fun z hF hr hn => ?_)
  refine jblk hF [(.lload_n 2, 1)] (by decide +kernel) (pc' := 1) (lo' := [(0, (1, a)), (2, (1, b))]) (st' := [(1, b)]) rfl ?_
  refine jlconst hF (n := 0) 0 rfl (by decide +kernel) ?_
  refine jlcmp_le hF (off := 11) 14 (by decide +kernel) (by decide +kernel) (by decide) (by omega) (by decide) (fun h_1 => ?_) (fun h_1 => ?_)
  · refine jlconst hF (n := 0) 0 rfl (by decide +kernel) ?_
    refine jlret hF hr (by decide +kernel) ?_
    exact lV (by first | rfl | (exfalso; omega))
  · refine jblk hF [(.lload_n 0, 1), (.lload_n 2, 1)] (by decide +kernel) (pc' := 8) (lo' := [(0, (1, a)), (2, (1, b))]) (st' := [(1, b), (1, a)]) rfl ?_
    refine jcallS hF (c_J9_floorMod_f86c9 hG a b (by omega) (by omega)) MW_J9_floorMod_f86c9 wd_546 wd_547 (by decide +kernel) [] rfl rfl (by decide) (Nat.le_of_ble_eq_true rfl) (by decide) (kV ?_)
    refine jgoto hF (off := 4) 15 (by decide +kernel) (by decide) ?_
    refine jlret hF hr (by decide +kernel) ?_
    exact lV (by first | rfl | (exfalso; omega))
set_option maxHeartbeats 4000000 in
set_option maxRecDepth 100000 in
theorem c_X11_rounded {l : Launch} {g : GP} (hG : GH g) {kd : Int → Nat} {ln : Int → Int} {mem : Int → Int → Int} {sz : Nat} (a b half : Int) (ha : InL a) (hb : 1 ≤ b ∧ b ≤ 1000000000000) (hh : 0 ≤ half ∧ half ≤ 2) : MT l g yX11_rounded cX11_rounded 9 (some .long) 2 0 0 [(1, a), (1, b), (0, half)] kd ln mem sz (pV (1, nearBy a b half) kd ln mem sz) := by
  refine MT_of hG (by decide +kernel) (Nat.le_of_ble_eq_true rfl) (fun z hF hr hn => ?_)
  have hq := ediv_bd a b (by omega)
  have hq2 := ediv_mul_bd a b (by omega)
  have hq3 := Int.emod_nonneg a (by omega : b ≠ 0)
  have hq4 := Int.emod_lt_of_pos a (by omega : 0 < b)
  have hq5 := Int.mul_ediv_add_emod a b
  rw [Int.mul_comm] at hq5
  refine jblk hF [(.lload_n 0, 1), (.lload_n 2, 1)] (by decide +kernel) (pc' := 2) (lo' := [(0, (1, a)), (2, (1, b)), (4, (0, half))]) (st' := [(1, b), (1, a)]) rfl ?_
  refine jcallS hF (c_X11_wholeBy hG a b (by omega) (by omega)) MW_X11_wholeBy wd_533 wd_534 (by decide +kernel) [] rfl rfl (by decide) (Nat.le_of_ble_eq_true rfl) (by decide) (kV ?_)
  refine jblk hF [(.lstore 5, 2)] (by decide +kernel) (pc' := 7) (lo' := [(5, (1, a / b)), (0, (1, a)), (2, (1, b)), (4, (0, half))]) (st' := []) rfl ?_
  refine jldc2 hF 2 (cst_l wd_556 (by decide)) (by decide +kernel) ?_
  refine jblk hF [(.lload_n 0, 1), (.lload_n 2, 1)] (by decide +kernel) (pc' := 12) (lo' := [(5, (1, a / b)), (0, (1, a)), (2, (1, b)), (4, (0, half))]) (st' := [(1, b), (1, a), (1, 2)]) rfl ?_
  refine jcallS hF (c_X11_restBy hG a b (by omega) (by omega)) MW_X11_restBy wd_543 wd_544 (by decide +kernel) [(1, 2)] rfl rfl (by decide) (Nat.le_of_ble_eq_true rfl) (by decide) (kV ?_)
  refine jblk hF [(.lmul, 1), (.lstore 7, 2), (.lload 7, 2), (.lload_n 2, 1)] (by decide +kernel) (pc' := 21) (lo' := [(7, (1, 2 * (a % b))), (5, (1, a / b)), (0, (1, a)), (2, (1, b)), (4, (0, half))]) (st' := [(1, b), (1, 2 * (a % b))]) rfl ?_
  refine jlcmp_ge hF (off := 6) 28 (by decide +kernel) (by decide +kernel) (by decide) (by omega) (by omega) (fun h_1 => ?_) (fun h_1 => ?_)
  · refine jblk hF [(.lload 7, 2), (.lload_n 2, 1)] (by decide +kernel) (pc' := 31) (lo' := [(7, (1, 2 * (a % b))), (5, (1, a / b)), (0, (1, a)), (2, (1, b)), (4, (0, half))]) (st' := [(1, b), (1, 2 * (a % b))]) rfl ?_
    refine jlcmp_gt hF (off := 8) 40 (by decide +kernel) (by decide +kernel) (by decide) (by omega) (by omega) (fun h_2 => ?_) (fun h_2 => ?_)
    · refine jblk hF [(.lload 5, 2)] (by decide +kernel) (pc' := 42) (lo' := [(7, (1, 2 * (a % b))), (5, (1, a / b)), (0, (1, a)), (2, (1, b)), (4, (0, half))]) (st' := [(1, a / b)]) rfl ?_
      refine jlconst hF (n := 1) 1 rfl (by decide +kernel) ?_
      refine jblk hF [(.ladd, 1)] (by decide +kernel) (pc' := 44) (lo' := [(7, (1, 2 * (a % b))), (5, (1, a / b)), (0, (1, a)), (2, (1, b)), (4, (0, half))]) (st' := [(1, (a / b) + 1)]) rfl ?_
      refine jlret hF hr (by decide +kernel) ?_
      exact lV (by unfold nearBy; (repeat' split) <;> omega)
    · refine jblk hF [(.iload 4, 2)] (by decide +kernel) (pc' := 37) (lo' := [(7, (1, 2 * (a % b))), (5, (1, a / b)), (0, (1, a)), (2, (1, b)), (4, (0, half))]) (st' := [(0, half)]) rfl ?_
      refine jif_ne hF (off := 8) 45 (by decide +kernel) (by decide) (by omega) (fun h_3 => ?_) (fun h_3 => ?_)
      · refine jblk hF [(.iload 4, 2), (.iconst 2, 1)] (by decide +kernel) (pc' := 48) (lo' := [(7, (1, 2 * (a % b))), (5, (1, a / b)), (0, (1, a)), (2, (1, b)), (4, (0, half))]) (st' := [(0, 2), (0, half)]) rfl ?_
        refine jicmp_eq hF (off := 12) 60 (by decide +kernel) (by decide) (by omega) (by decide) (fun h_4 => ?_) (fun h_4 => ?_)
        · refine jblk hF [(.lload 5, 2)] (by decide +kernel) (pc' := 62) (lo' := [(7, (1, 2 * (a % b))), (5, (1, a / b)), (0, (1, a)), (2, (1, b)), (4, (0, half))]) (st' := [(1, a / b)]) rfl ?_
          refine jgoto hF (off := 7) 69 (by decide +kernel) (by decide) ?_
          refine jlret hF hr (by decide +kernel) ?_
          exact lV (by unfold nearBy; (repeat' split) <;> omega)
        · have hl1 := fland_1 (a / b)
          refine jblk hF [(.lload 5, 2)] (by decide +kernel) (pc' := 53) (lo' := [(7, (1, 2 * (a % b))), (5, (1, a / b)), (0, (1, a)), (2, (1, b)), (4, (0, half))]) (st' := [(1, a / b)]) rfl ?_
          refine jlconst hF (n := 1) 1 rfl (by decide +kernel) ?_
          refine jblk hF [(.land, 1)] (by decide +kernel) (pc' := 55) (lo' := [(7, (1, 2 * (a % b))), (5, (1, a / b)), (0, (1, a)), (2, (1, b)), (4, (0, half))]) (st' := [(1, fland (a / b) 1)]) rfl ?_
          refine jlconst hF (n := 0) 0 rfl (by decide +kernel) ?_
          refine jlcmp_ne hF (off := 8) 65 (by decide +kernel) (by decide +kernel) (by decide) (by omega) (by decide) (fun h_5 => ?_) (fun h_5 => ?_)
          · refine jblk hF [(.lload 5, 2)] (by decide +kernel) (pc' := 67) (lo' := [(7, (1, 2 * (a % b))), (5, (1, a / b)), (0, (1, a)), (2, (1, b)), (4, (0, half))]) (st' := [(1, a / b)]) rfl ?_
            refine jlconst hF (n := 1) 1 rfl (by decide +kernel) ?_
            refine jblk hF [(.ladd, 1)] (by decide +kernel) (pc' := 69) (lo' := [(7, (1, 2 * (a % b))), (5, (1, a / b)), (0, (1, a)), (2, (1, b)), (4, (0, half))]) (st' := [(1, (a / b) + 1)]) rfl ?_
            refine jlret hF hr (by decide +kernel) ?_
            exact lV (by unfold nearBy; (repeat' split) <;> omega)
          · refine jblk hF [(.lload 5, 2)] (by decide +kernel) (pc' := 62) (lo' := [(7, (1, 2 * (a % b))), (5, (1, a / b)), (0, (1, a)), (2, (1, b)), (4, (0, half))]) (st' := [(1, a / b)]) rfl ?_
            refine jgoto hF (off := 7) 69 (by decide +kernel) (by decide) ?_
            refine jlret hF hr (by decide +kernel) ?_
            exact lV (by unfold nearBy; (repeat' split) <;> omega)
      · refine jblk hF [(.lload 5, 2)] (by decide +kernel) (pc' := 42) (lo' := [(7, (1, 2 * (a % b))), (5, (1, a / b)), (0, (1, a)), (2, (1, b)), (4, (0, half))]) (st' := [(1, a / b)]) rfl ?_
        refine jlconst hF (n := 1) 1 rfl (by decide +kernel) ?_
        refine jblk hF [(.ladd, 1)] (by decide +kernel) (pc' := 44) (lo' := [(7, (1, 2 * (a % b))), (5, (1, a / b)), (0, (1, a)), (2, (1, b)), (4, (0, half))]) (st' := [(1, (a / b) + 1)]) rfl ?_
        refine jlret hF hr (by decide +kernel) ?_
        exact lV (by unfold nearBy; (repeat' split) <;> omega)
  · refine jblk hF [(.lload 5, 2)] (by decide +kernel) (pc' := 27) (lo' := [(7, (1, 2 * (a % b))), (5, (1, a / b)), (0, (1, a)), (2, (1, b)), (4, (0, half))]) (st' := [(1, a / b)]) rfl ?_
    refine jlret hF hr (by decide +kernel) ?_
    exact lV (by unfold nearBy; (repeat' split) <;> omega)
end
