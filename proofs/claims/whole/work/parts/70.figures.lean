section
/-! a block, a page -/
theorem bd_dif0 (f : Int → Int) (n : Int) : bdiff f 0 n = difF f n 0 1 := by
  simp only [bdiff, difF, chN, Int.sub_zero, Int.ofNat_zero, Int.natCast_zero]
  rw [if_pos (by decide)]
  omega
theorem ch_tab : chN 1 0 = 1 ∧ chN 1 1 = 1 ∧ chN 2 0 = 1 ∧ chN 2 1 = 2 ∧ chN 2 2 = 1 ∧ chN 3 0 = 1 ∧ chN 3 1 = 3 ∧ chN 3 2 = 3 ∧ chN 3 3 = 1 ∧ chN 4 0 = 1 ∧ chN 4 1 = 4 ∧ chN 4 2 = 6 ∧ chN 4 3 = 4 ∧ chN 4 4 = 1 := by decide +kernel
theorem bd_dif {f : Int → Int} {n c : Int} (hc : 0 ≤ c ∧ c ≤ 4) : difF f n c (c + 1).toNat = bdiff f c.toNat n := by
  obtain ⟨t1, t2, t3, t4, t5, t6, t7, t8, t9, t10, t11, t12, t13, t14⟩ := ch_tab
  have e0 : f (n - ((0 : Nat) : Int)) = f n := by rw [show n - ((0 : Nat) : Int) = n by omega]
  have e1 : f (n - ((1 : Nat) : Int)) = f (n - 1) := rfl
  have e2 : f (n - ((2 : Nat) : Int)) = f (n - 1 - 1) := by rw [show n - ((2 : Nat) : Int) = n - 1 - 1 by omega]
  have e3 : f (n - ((3 : Nat) : Int)) = f (n - 1 - 1 - 1) := by rw [show n - ((3 : Nat) : Int) = n - 1 - 1 - 1 by omega]
  have e4 : f (n - ((4 : Nat) : Int)) = f (n - 1 - 1 - 1 - 1) := by rw [show n - ((4 : Nat) : Int) = n - 1 - 1 - 1 - 1 by omega]
  rcases (show c = 0 ∨ c = 1 ∨ c = 2 ∨ c = 3 ∨ c = 4 by omega) with rfl | rfl | rfl | rfl | rfl
  · exact (bd_dif0 f n).symm
  · show difF f n 1 2 = bdiff f 1 n
    simp only [difF, bdiff, e0, e1, t1, t2]
    rw [if_pos (by decide), if_neg (by decide)]
    omega
  · show difF f n 2 3 = bdiff f 2 n
    simp only [difF, bdiff, e0, e1, e2, t3, t4, t5]
    rw [if_pos (by decide), if_neg (by decide), if_pos (by decide)]
    omega
  · show difF f n 3 4 = bdiff f 3 n
    simp only [difF, bdiff, e0, e1, e2, e3, t6, t7, t8, t9]
    rw [if_pos (by decide), if_neg (by decide), if_pos (by decide), if_neg (by decide)]
    omega
  · show difF f n 4 5 = bdiff f 4 n
    simp only [difF, bdiff, e0, e1, e2, e3, e4, t10, t11, t12, t13, t14]
    rw [if_pos (by decide), if_neg (by decide), if_pos (by decide), if_neg (by decide), if_pos (by decide)]
    omega
/-- a line's place in its block -/
theorem blk_mod {s n m : Int} (hm : 0 < m) (hs : s % m = 0) (h0 : s ≤ n) (h1 : n < s + m) : n % m = n - s := by
  have h2 := Int.mul_ediv_add_emod s m
  rw [hs] at h2
  rw [show n = (n - s) + m * (s / m) by omega, Int.add_mul_emod_self_left, Int.emod_eq_of_lt (by omega) (by omega)]
  omega
/-- figures made from line s to line e -/
def MBL (mem mm : Int → Int → Int) (nr ad : Int → Int) (o m s e : Int) : Prop := (∀ n : Int, s ≤ n → n < e → mm 11 n = numF nr ad o m n) ∧ ∀ n j : Int, s ≤ n → n < e → o ≤ n % m → 0 ≤ j → j ≤ o → mm 12 (n * 5 + j) = rowF nr ad o m n j
def FRB (mem mm : Int → Int → Int) (s e : Int) : Prop := ∀ b j : Int, ¬ (b = 11 ∧ s ≤ j ∧ j < e) → ¬ (b = 12 ∧ s * 5 ≤ j ∧ j < e * 5) → mm b j = mem b j
/-- the pivots' loop -/
theorem FRB.put11 {mem m : Int → Int → Int} {s e i x : Int} (h : FRB mem m s e) (hi : s ≤ i ∧ i < e) : FRB mem (set2 m 11 i x) s e := fun b j q1 q2 => (if_neg (by omega)).trans (h b j q1 q2)
theorem FRB.put12 {mem m : Int → Int → Int} {s e i x : Int} (h : FRB mem m s e) (hi : s * 5 ≤ i ∧ i < e * 5) : FRB mem (set2 m 12 i x) s e := fun b j q1 q2 => (if_neg (by omega)).trans (h b j q1 q2)
theorem MLN.frb {mem m mm : Int → Int → Int} {s e n o : Int} (h : FRB mem m s e) (hl : MLN m mm n o) (hn : s ≤ n ∧ n < e) : FRB mem mm s e := fun b j q1 q2 => (hl.1 b j (by omega) (by omega)).trans (h b j q1 q2)
/-- rows of the last pivot -/
def PVR (m : Int → Int → Int) (nr : Int → Int) (n c : Int) : Prop := ∀ j : Int, 0 ≤ j → j < c → m 12 (n * 5 + j) = bdiff nr j.toNat n
theorem difF_cg {nm nm' : Int → Int} (n t : Int) : ∀ k : Nat, (∀ i : Int, n - k < i → i ≤ n → nm i = nm' i) → difF nm n t k = difF nm' n t k := by
  intro k
  induction k with
  | zero => intro _; rfl
  | succ k ih =>
    intro h
    rw [difF, difF, ih (fun i h1 h2 => h i (by omega) h2), h _ (by omega) (by omega)]
theorem PVR.step {m : Int → Int → Int} {nr : Int → Int} {n c x : Int} (h : PVR m nr n c) (hc : 0 ≤ c ∧ c ≤ 4) (hm : ∀ i : Int, n - c ≤ i → i ≤ n → m 11 i = nr i) (hx : x = difF (m 11) n c (c + 1).toNat) : PVR (set2 m 12 (n * 5 + c) x) nr n (c + 1) := by
  intro j q1 q2
  by_cases e : j = c
  · subst e
    rw [s2_s, hx, difF_cg n j (j + 1).toNat (nm' := nr) (fun i h1 h2 => hm i (by omega) h2), bd_dif hc]
  · rw [s2_k (by omega)]
    exact h j q1 (by omega)
/-- a made line goes on -/
theorem MBL.line {mem m mm : Int → Int → Int} {nr ad : Int → Int} {o ml s i : Int} (h : MBL mem m nr ad o ml s i) (hl : MLN m mm i o) (had : ∀ j : Int, m 13 j = ad j) (h0 : 0 ≤ s) (ho : 1 ≤ o ∧ o ≤ 4) (hml : o + 2 ≤ ml) (hs : s % ml = 0) (hi : s + o < i) (hie : i < s + ml) : MBL mem mm nr ad o ml s (i + 1) := by
  obtain ⟨l1, l2, l3, l4⟩ := hl
  obtain ⟨h1, h2⟩ := h
  have hmod := blk_mod (n := i) (by omega) hs (by omega) hie
  have hmod1 := blk_mod (n := i - 1) (by omega) hs (by omega) (by omega)
  have hold : ∀ j : Int, 0 ≤ j → j ≤ o → m 12 (i * 5 - 5 + j) = rowF nr ad o ml (i - 1) j := fun j q1 q2 => by
    rw [show i * 5 - 5 + j = (i - 1) * 5 + j by omega]
    exact h2 (i - 1) j (by omega) (by omega) (by omega) q1 q2
  have key : ∀ d : Nat, ∀ j : Int, o - j = d → 0 ≤ j → mm 12 (i * 5 + j) = rowF nr ad o ml i j := by
    intro d
    induction d with
    | zero =>
      intro j q1 q2
      rw [show j = o by omega, l2, hold o (by omega) (Int.le_refl _), rowF_top (n := i) (by omega) (by omega) (by omega) (by omega)]
    | succ d ih =>
      intro j q1 q2
      rw [l3 j q2 (by omega), hold j q2 (by omega), show i * 5 + j + 1 = i * 5 + (j + 1) by omega, ih (j + 1) (by omega) (by omega), had, rowF_step (n := i) (by omega) (by omega) q2 (by omega) (by omega), show i * 5 + j = 5 * i + j by omega]
  refine ⟨fun n q1 q2 => ?_, fun n j q1 q2 q3 q4 q5 => ?_⟩
  · by_cases e : n = i
    · subst e
      have k0 := key o.toNat 0 (by omega) (Int.le_refl _)
      rw [Int.add_zero] at k0
      rw [l4, k0, had, numF_made (by omega) (by omega) (by omega) (by omega), show n * 5 + 4 = 5 * n + 4 by omega]
    · rw [l1 11 n (by omega) (by omega)]
      exact h1 n q1 (by omega)
  · by_cases e : n = i
    · subst e
      exact key (o - j).toNat j (by omega) q4
    · rw [l1 12 _ (by omega) (by omega)]
      exact h2 n j q1 (by omega) q3 q4 q5
theorem MBL.pivs {mem m : Int → Int → Int} {nr ad : Int → Int} {o ml s e : Int} (h : ∀ n : Int, s ≤ n → n < e → m 11 n = nr n) (h0 : 0 ≤ s) (ho : 1 ≤ o ∧ o ≤ 4) (hml : o + 2 ≤ ml) (hs : s % ml = 0) (he : e ≤ s + o + 1) (hp : e = s + o + 1 → PVR m nr (s + o) (o + 1)) : MBL mem m nr ad o ml s e := by
  refine ⟨fun n q1 q2 => ?_, fun n j q1 q2 q3 q4 q5 => ?_⟩
  · have hmod := blk_mod (n := n) (by omega) hs q1 (by omega)
    rw [numF_piv (by omega) (by omega) (by omega) (by omega)]
    exact h n q1 q2
  · have hmod := blk_mod (n := n) (by omega) hs q1 (by omega)
    rw [rowF_piv (by omega) (by omega) (by omega) (by omega), show n = s + o by omega]
    exact hp (by omega) j q4 (by omega)
def MBP (mem mm : Int → Int → Int) (p b : Int) : Prop := FRB mem mm (b * mem p 7) (enV mem p b) ∧ MBL mem mm (mem (mem p 13)) (mem 13) (mem p 4) (mem p 7) (b * mem p 7) (enV mem p b)
set_option maxHeartbeats 4000000 in
set_option maxRecDepth 100000 in
theorem c_X2_makeBlock {l : Launch} {g : GP} (hG : GH g) {kd : Int → Nat} {ln : Int → Int} {mem : Int → Int → Int} {sz : Nat} (hK : HK kd ln) (hR : HR mem) (p b : Int) (hkp : kd p = 5) (hp0 : 0 ≤ p) (hPB : PB mem p) (h13 : kd (mem p 13) = 21 ∧ ln (mem p 13) = 40 ∧ 35 ≤ mem p 13) (hp35 : 35 ≤ p) (hb : 0 ≤ b ∧ b * mem p 7 < mem p 2) : MT l g yX2_makeBlock cX2_makeBlock 6 none 2 0 0 [(2, 10), (2, p), (0, b)] kd ln mem sz (pMV (fun mem' => HR mem' ∧ (MBP mem mem' p b)) kd ln sz) := by
  refine MT_of hG (by decide +kernel) (Nat.le_of_ble_eq_true rfl) (fun z hF hr hn => ?_)
  have ⟨b1, b2, b3, b4, b5, b6, b7, b8, b9, b10, b11, b12, b13, b14, b15, b16⟩ := hPB
  have hb40 : b ≤ 40 := by
    have := Int.mul_le_mul_of_nonneg_left (show (1 : Int) ≤ mem p 7 by omega) hb.1
    omega
  have hs0 : 0 ≤ b * mem p 7 := Int.mul_nonneg hb.1 (by omega)
  have hsm : b * mem p 7 % mem p 7 = 0 := Int.mul_emod_left _ _
  have hen : enV mem p b ≤ b * mem p 7 + mem p 7 ∧ b * mem p 7 < enV mem p b ∧ enV mem p b ≤ mem p 2 := by
    unfold enV
    rw [show (b + 1) * mem p 7 = b * mem p 7 + mem p 7 by rw [Int.add_mul, Int.one_mul]]
    split <;> omega
  have hmd : mdV mem p b ≤ enV mem p b ∧ mdV mem p b ≤ b * mem p 7 + mem p 4 + 1 ∧ (mdV mem p b < enV mem p b → mdV mem p b = b * mem p 7 + mem p 4 + 1) ∧ b * mem p 7 < mdV mem p b := by
    unfold mdV
    split <;> omega
  obtain ⟨S, hS2⟩ : ∃ q : Int, q = b * mem p 7 := ⟨_, rfl⟩
  obtain ⟨E, hE2⟩ : ∃ q : Int, q = enV mem p b := ⟨_, rfl⟩
  obtain ⟨D, hD2⟩ : ∃ q : Int, q = mdV mem p b := ⟨_, rfl⟩
  rw [← hS2] at hsm hs0 hen hmd hb
  rw [← hE2] at hen hmd
  rw [← hD2] at hmd
  obtain ⟨nr, hnr⟩ : ∃ q : Int → Int, q = mem (mem p 13) := ⟨_, rfl⟩
  obtain ⟨ad, had⟩ : ∃ q : Int → Int, q = mem 13 := ⟨_, rfl⟩
  refine jblk hF [(.aload_n 1, 1), (.iload_n 2, 1)] (by decide +kernel) (pc' := 2) (lo' := [(0, (2, 10)), (1, (2, p)), (2, (0, b))]) (st' := [(0, b), (2, p)]) rfl ?_
  refine jcallV hF (c_X3_madeFrom hG p b (by first | assumption | omega) (by omega) (by assumption) (by omega)) MW_X3_madeFrom 4 (by decide) (by first | assumption | omega) wd_822 wd_823 wd_824 (by decide +kernel) [] rfl rfl (by decide) (Nat.le_of_ble_eq_true rfl) (by decide) (kV ?_)
  rw [← hD2]
  refine jblk hF [(.istore_n 3, 1), (.aload_n 1, 1), (.iload_n 2, 1)] (by decide +kernel) (pc' := 8) (lo' := [(3, (0, D)), (0, (2, 10)), (1, (2, p)), (2, (0, b))]) (st' := [(0, b), (2, p)]) rfl ?_
  refine jcallV hF (c_X3_endOf hG p b (by first | assumption | omega) (by omega) (by assumption) (by omega)) MW_X3_endOf 4 (by decide) (by first | assumption | omega) wd_835 wd_827 wd_828 (by decide +kernel) [] rfl rfl (by decide) (Nat.le_of_ble_eq_true rfl) (by decide) (kV ?_)
  rw [← hE2]
  refine jblk hF [(.istore 4, 2), (.aload_n 1, 1), (.iload_n 2, 1)] (by decide +kernel) (pc' := 15) (lo' := [(4, (0, E)), (3, (0, D)), (0, (2, 10)), (1, (2, p)), (2, (0, b))]) (st' := [(0, b), (2, p)]) rfl ?_
  refine jcallV hF (c_X3_startOf hG p b (by first | assumption | omega) (by omega) (by omega) (by omega)) MW_X3_startOf 4 (by decide) (by first | assumption | omega) wd_836 wd_831 wd_832 (by decide +kernel) [] rfl rfl (by decide) (Nat.le_of_ble_eq_true rfl) (by decide) (kV ?_)
  rw [← hS2]
  refine jblk hF [(.istore 5, 2)] (by decide +kernel) (pc' := 20) (lo' := [(5, (0, S)), (4, (0, E)), (3, (0, D)), (0, (2, 10)), (1, (2, p)), (2, (0, b))]) (st' := []) rfl ?_
  have L_2 : ∀ (fu_3 : Nat) (i : Int) (m : Int → Int → Int), (HR m) → (S ≤ i ∧ i ≤ D) → (FRB mem m S E) → (∀ n : Int, S ≤ n → n < i → m 11 n = nr n) →  (D - i).toNat < fu_3 → J z g 6 0 0 (QM z g 0 0 (pMV (fun mem' => HR mem' ∧ (MBP mem mem' p b)) kd ln sz)) 20 [(0, (2, 10)), (1, (2, p)), (2, (0, b)), (3, (0, D)), (4, (0, E)), (5, (0, i))] [] kd ln m sz := by
    intro fu_3
    induction fu_3 with
    | zero => intro i m _ _ _ _ hm; omega
    | succ fu_3 ih_1 =>
      intro i m hR_m hi hf hv hm
      have m2 : m p 2 = mem p 2 := hf p 2 (by omega) (by omega)
      have m4 : m p 4 = mem p 4 := hf p 4 (by omega) (by omega)
      have m7 : m p 7 = mem p 7 := hf p 7 (by omega) (by omega)
      have m13 : m p 13 = mem p 13 := hf p 13 (by omega) (by omega)
      have hk13 : kd (m p 13) = 21 := by rw [m13]; exact h13.1
      have hl13 : ln (m p 13) = 40 := by rw [m13]; exact h13.2.1
      have hg13 : 35 ≤ m p 13 := by rw [m13]; exact h13.2.2
      have hvn : ∀ j : Int, m (m p 13) j = nr j := fun j => by rw [m13, hnr]; exact hf _ _ (by omega) (by omega)
      refine jblk hF [(.iload 5, 2), (.iload_n 3, 1)] (by decide +kernel) (pc' := 23) (lo' := [(0, (2, 10)), (1, (2, p)), (2, (0, b)), (3, (0, D)), (4, (0, E)), (5, (0, i))]) (st' := [(0, D), (0, i)]) rfl ?_
      refine jicmp_ge hF (off := 23) 46 (by decide +kernel) (by decide) (by omega) (by omega) (fun h_4 => ?_) (fun h_4 => ?_)
      · refine jblk hF [(.iload_n 3, 1), (.aload_n 1, 1), (.iload_n 2, 1)] (by decide +kernel) (pc' := 49) (lo' := [(0, (2, 10)), (1, (2, p)), (2, (0, b)), (3, (0, D)), (4, (0, E)), (5, (0, i))]) (st' := [(0, b), (2, p), (0, D)]) rfl ?_
        refine jcallV hF (c_X3_startOf hG p b (by first | assumption | omega) (by omega) (by omega) (by omega)) MW_X3_startOf 4 (by decide) (by first | assumption | omega) wd_836 wd_831 wd_832 (by decide +kernel) [(0, D)] rfl rfl (by decide) (Nat.le_of_ble_eq_true rfl) (by decide) (kV ?_)
        rw [show b * m p 7 = S by rw [m7]; exact hS2.symm]
        refine jblk hF [(.isub, 1), (.aload_n 1, 1)] (by decide +kernel) (pc' := 54) (lo' := [(0, (2, 10)), (1, (2, p)), (2, (0, b)), (3, (0, D)), (4, (0, E)), (5, (0, i))]) (st' := [(2, p), (0, D - S)]) rfl ?_
        refine jget hF 4 4 0 4 rfl (by decide) (by decide) rfl wd_701 (by decide +kernel) (by first | assumption | omega) ?_
        refine jicmp_le hF (off := 43) 100 (by decide +kernel) (by decide) (by omega) (by omega) (fun h_5 => ?_) (fun h_5 => ?_)
        · have hpv : D = S + mem p 4 + 1 → PVR m nr (S + mem p 4) (mem p 4 + 1) := by
            first
            | (intro q; exfalso; omega)
            | (intro _; rw [show mem p 4 + 1 = c by omega]; exact hpr)
          refine jblk hF [(.iload_n 3, 1), (.istore 5, 2)] (by decide +kernel) (pc' := 103) (lo' := [(5, (0, D)), (0, (2, 10)), (1, (2, p)), (2, (0, b)), (3, (0, D)), (4, (0, E))]) (st' := []) rfl ?_
          have L_7 : ∀ (fu_8 : Nat) (i : Int) (m3 : Int → Int → Int), (HR m3) → (D ≤ i ∧ i ≤ E) → (FRB mem m3 S E) → (MBL mem m3 nr ad (mem p 4) (mem p 7) S i) →  (E - i).toNat < fu_8 → J z g 6 0 0 (QM z g 0 0 (pMV (fun mem' => HR mem' ∧ (MBP mem mem' p b)) kd ln sz)) 103 [(0, (2, 10)), (1, (2, p)), (2, (0, b)), (3, (0, D)), (4, (0, E)), (5, (0, i))] [] kd ln m3 sz := by
            intro fu_8
            induction fu_8 with
            | zero => intro i m3 _ _ _ _ hm; omega
            | succ fu_8 ih_6 =>
              intro i m3 hR_m3 hi3 hf3 hb3 hm9
              have m32 : m3 p 2 = mem p 2 := hf3 p 2 (by omega) (by omega)
              have m34 : m3 p 4 = mem p 4 := hf3 p 4 (by omega) (by omega)
              have m37 : m3 p 7 = mem p 7 := hf3 p 7 (by omega) (by omega)
              have m313 : m3 p 13 = mem p 13 := hf3 p 13 (by omega) (by omega)
              have hd3 : ∀ j : Int, m3 13 j = ad j := fun j => by rw [had]; exact hf3 _ _ (by omega) (by omega)
              refine jblk hF [(.iload 5, 2), (.iload 4, 2)] (by decide +kernel) (pc' := 107) (lo' := [(0, (2, 10)), (1, (2, p)), (2, (0, b)), (3, (0, D)), (4, (0, E)), (5, (0, i))]) (st' := [(0, E), (0, i)]) rfl ?_
              refine jicmp_ge hF (off := 19) 126 (by decide +kernel) (by decide) (by omega) (by omega) (fun h_9 => ?_) (fun h_9 => ?_)
              · refine jvret hF hr (by decide +kernel) ?_
                exact lMV ⟨hR_m3, by (unfold MBP; rw [← hS2, ← hE2, ← hnr, ← had]; exact ⟨hf3, by rw [show E = i by omega]; exact hb3⟩)⟩
              · refine jblk hF [(.aload_n 0, 1), (.iload 5, 2), (.aload_n 1, 1)] (by decide +kernel) (pc' := 114) (lo' := [(0, (2, 10)), (1, (2, p)), (2, (0, b)), (3, (0, D)), (4, (0, E)), (5, (0, i))]) (st' := [(2, p), (0, i), (2, 10)]) rfl ?_
                refine jget hF 4 4 0 4 rfl (by decide) (by decide) rfl wd_701 (by decide +kernel) (by first | assumption | omega) ?_
                refine jcallV hF (c_X2_makeLine hG hK hR_m3 i (m3 p 4) (by omega)) MW_X2_makeLine 3 (by decide) (by exact hK.k10) wd_841 wd_843 wd_p23 (by decide +kernel) [] rfl rfl (by decide) (Nat.le_of_ble_eq_true rfl) (by decide) (kMV (fun m_10 h_11 => ?_))
                obtain ⟨hR_m_10, h_11⟩ := h_11
                have hml := h_11
                have hfb3 := hml.frb hf3 (s := S) (e := E) (by omega)
                refine jblk hF [(.iinc 5 1, 3)] (by decide +kernel) (pc' := 123) (lo' := [(5, (0, i + 1)), (0, (2, 10)), (1, (2, p)), (2, (0, b)), (3, (0, D)), (4, (0, E))]) (st' := []) rfl ?_
                refine jgoto hF (off := (-20)) 103 (by decide +kernel) (by decide) ?_
                refine jsub [1, 2, 3, 4, 5, 0] rfl ?_
                refine ih_6 (i + 1) m_10 ?_ ?_ ?_ ?_ ?_
                · exact hR_m_10
                · omega
                · exact hfb3
                · (rw [m34] at hml; exact hb3.line hml hd3 hs0 (by omega) (by omega) hsm (by omega) (by omega))
                · omega
          refine jsub [1, 2, 3, 4, 5, 0] rfl ?_
          refine L_7 _ D m ?_ ?_ ?_ ?_ (Nat.lt_succ_self _)
          · exact hR_m
          · omega
          · first | exact hf | exact hf2
          · first | exact MBL.pivs (fun n q1 q2 => hv n q1 (by omega)) hs0 (by omega) (by omega) hsm (by omega) hpv | exact MBL.pivs hv2 hs0 (by omega) (by omega) hsm (by omega) hpv
        · refine jblk hF [(.iconst 0, 1), (.istore 5, 2)] (by decide +kernel) (pc' := 63) (lo' := [(5, (0, 0)), (0, (2, 10)), (1, (2, p)), (2, (0, b)), (3, (0, D)), (4, (0, E))]) (st' := []) rfl ?_
          have L_13 : ∀ (fu_14 : Nat) (c : Int) (m2 : Int → Int → Int), (HR m2) → (0 ≤ c ∧ c ≤ mem p 4 + 1) → (FRB mem m2 S E) → (∀ n : Int, S ≤ n → n < D → m2 11 n = nr n) → (PVR m2 nr (S + mem p 4) c) →  (mem p 4 + 1 - c).toNat < fu_14 → J z g 6 0 0 (QM z g 0 0 (pMV (fun mem' => HR mem' ∧ (MBP mem mem' p b)) kd ln sz)) 63 [(0, (2, 10)), (1, (2, p)), (2, (0, b)), (3, (0, D)), (4, (0, E)), (5, (0, c))] [] kd ln m2 sz := by
            intro fu_14
            induction fu_14 with
            | zero => intro c m2 _ _ _ _ _ hm; omega
            | succ fu_14 ih_12 =>
              intro c m2 hR_m2 hc hf2 hv2 hpr hm9
              have m22 : m2 p 2 = mem p 2 := hf2 p 2 (by omega) (by omega)
              have m24 : m2 p 4 = mem p 4 := hf2 p 4 (by omega) (by omega)
              have m27 : m2 p 7 = mem p 7 := hf2 p 7 (by omega) (by omega)
              have m213 : m2 p 13 = mem p 13 := hf2 p 13 (by omega) (by omega)
              refine jblk hF [(.iload 5, 2), (.aload_n 1, 1)] (by decide +kernel) (pc' := 66) (lo' := [(0, (2, 10)), (1, (2, p)), (2, (0, b)), (3, (0, D)), (4, (0, E)), (5, (0, c))]) (st' := [(2, p), (0, c)]) rfl ?_
              refine jget hF 4 4 0 4 rfl (by decide) (by decide) rfl wd_701 (by decide +kernel) (by first | assumption | omega) ?_
              refine jicmp_gt hF (off := 31) 100 (by decide +kernel) (by decide) (by omega) (by omega) (fun h_15 => ?_) (fun h_15 => ?_)
              · have hpv : D = S + mem p 4 + 1 → PVR m2 nr (S + mem p 4) (mem p 4 + 1) := by
                  first
                  | (intro q; exfalso; omega)
                  | (intro _; rw [show mem p 4 + 1 = c by omega]; exact hpr)
                refine jblk hF [(.iload_n 3, 1), (.istore 5, 2)] (by decide +kernel) (pc' := 103) (lo' := [(5, (0, D)), (0, (2, 10)), (1, (2, p)), (2, (0, b)), (3, (0, D)), (4, (0, E))]) (st' := []) rfl ?_
                have L_17 : ∀ (fu_18 : Nat) (i : Int) (m3 : Int → Int → Int), (HR m3) → (D ≤ i ∧ i ≤ E) → (FRB mem m3 S E) → (MBL mem m3 nr ad (mem p 4) (mem p 7) S i) →  (E - i).toNat < fu_18 → J z g 6 0 0 (QM z g 0 0 (pMV (fun mem' => HR mem' ∧ (MBP mem mem' p b)) kd ln sz)) 103 [(0, (2, 10)), (1, (2, p)), (2, (0, b)), (3, (0, D)), (4, (0, E)), (5, (0, i))] [] kd ln m3 sz := by
                  intro fu_18
                  induction fu_18 with
                  | zero => intro i m3 _ _ _ _ hm; omega
                  | succ fu_18 ih_16 =>
                    intro i m3 hR_m3 hi3 hf3 hb3 hm9
                    have m32 : m3 p 2 = mem p 2 := hf3 p 2 (by omega) (by omega)
                    have m34 : m3 p 4 = mem p 4 := hf3 p 4 (by omega) (by omega)
                    have m37 : m3 p 7 = mem p 7 := hf3 p 7 (by omega) (by omega)
                    have m313 : m3 p 13 = mem p 13 := hf3 p 13 (by omega) (by omega)
                    have hd3 : ∀ j : Int, m3 13 j = ad j := fun j => by rw [had]; exact hf3 _ _ (by omega) (by omega)
                    refine jblk hF [(.iload 5, 2), (.iload 4, 2)] (by decide +kernel) (pc' := 107) (lo' := [(0, (2, 10)), (1, (2, p)), (2, (0, b)), (3, (0, D)), (4, (0, E)), (5, (0, i))]) (st' := [(0, E), (0, i)]) rfl ?_
                    refine jicmp_ge hF (off := 19) 126 (by decide +kernel) (by decide) (by omega) (by omega) (fun h_19 => ?_) (fun h_19 => ?_)
                    · refine jvret hF hr (by decide +kernel) ?_
                      exact lMV ⟨hR_m3, by (unfold MBP; rw [← hS2, ← hE2, ← hnr, ← had]; exact ⟨hf3, by rw [show E = i by omega]; exact hb3⟩)⟩
                    · refine jblk hF [(.aload_n 0, 1), (.iload 5, 2), (.aload_n 1, 1)] (by decide +kernel) (pc' := 114) (lo' := [(0, (2, 10)), (1, (2, p)), (2, (0, b)), (3, (0, D)), (4, (0, E)), (5, (0, i))]) (st' := [(2, p), (0, i), (2, 10)]) rfl ?_
                      refine jget hF 4 4 0 4 rfl (by decide) (by decide) rfl wd_701 (by decide +kernel) (by first | assumption | omega) ?_
                      refine jcallV hF (c_X2_makeLine hG hK hR_m3 i (m3 p 4) (by omega)) MW_X2_makeLine 3 (by decide) (by exact hK.k10) wd_841 wd_843 wd_p23 (by decide +kernel) [] rfl rfl (by decide) (Nat.le_of_ble_eq_true rfl) (by decide) (kMV (fun m_20 h_21 => ?_))
                      obtain ⟨hR_m_20, h_21⟩ := h_21
                      have hml := h_21
                      have hfb3 := hml.frb hf3 (s := S) (e := E) (by omega)
                      refine jblk hF [(.iinc 5 1, 3)] (by decide +kernel) (pc' := 123) (lo' := [(5, (0, i + 1)), (0, (2, 10)), (1, (2, p)), (2, (0, b)), (3, (0, D)), (4, (0, E))]) (st' := []) rfl ?_
                      refine jgoto hF (off := (-20)) 103 (by decide +kernel) (by decide) ?_
                      refine jsub [1, 2, 3, 4, 5, 0] rfl ?_
                      refine ih_16 (i + 1) m_20 ?_ ?_ ?_ ?_ ?_
                      · exact hR_m_20
                      · omega
                      · exact hfb3
                      · (rw [m34] at hml; exact hb3.line hml hd3 hs0 (by omega) (by omega) hsm (by omega) (by omega))
                      · omega
                refine jsub [1, 2, 3, 4, 5, 0] rfl ?_
                refine L_17 _ D m2 ?_ ?_ ?_ ?_ (Nat.lt_succ_self _)
                · exact hR_m2
                · omega
                · first | exact hf | exact hf2
                · first | exact MBL.pivs (fun n q1 q2 => hv n q1 (by omega)) hs0 (by omega) (by omega) hsm (by omega) hpv | exact MBL.pivs hv2 hs0 (by omega) (by omega) hsm (by omega) hpv
              · refine jblk hF [(.aload_n 0, 1)] (by decide +kernel) (pc' := 73) (lo' := [(0, (2, 10)), (1, (2, p)), (2, (0, b)), (3, (0, D)), (4, (0, E)), (5, (0, c))]) (st' := [(2, 10)]) rfl ?_
                refine jget hF 3 1 2 1 rfl (by decide) (by decide) rfl wd_200 (by decide +kernel) (by exact hK.k10) ?_
                rw [HR.r10_1 hR_m2]
                refine jblk hF [(.iload_n 3, 1), (.iconst 1, 1), (.isub, 1), (.iconst 5, 1), (.imul, 1), (.iload 5, 2), (.iadd, 1), (.aload_n 0, 1), (.iload_n 3, 1), (.iconst 1, 1), (.isub, 1), (.iload 5, 2)] (by decide +kernel) (pc' := 90) (lo' := [(0, (2, 10)), (1, (2, p)), (2, (0, b)), (3, (0, D)), (4, (0, E)), (5, (0, c))]) (st' := [(0, c), (0, D - 1), (2, 10), (0, ((D - 1) * 5) + c), (2, 12)]) rfl ?_
                refine jcallV hF (c_X2_difference hG hK hR_m2 (D - 1) c (by omega)) MW_X2_difference 3 (by decide) (by exact hK.k10) wd_837 wd_838 wd_839 (by decide +kernel) [(0, ((D - 1) * 5) + c), (2, 12)] rfl rfl (by decide) (Nat.le_of_ble_eq_true rfl) (by decide) (kV ?_)
                refine jlast hF (by decide +kernel) (by decide) (by exact hK.k12) (by omega) (by have := hK.l12; omega) ?_
                refine jblk hF [(.iinc 5 1, 3)] (by decide +kernel) (pc' := 97) (lo' := [(5, (0, c + 1)), (0, (2, 10)), (1, (2, p)), (2, (0, b)), (3, (0, D)), (4, (0, E))]) (st' := []) rfl ?_
                refine jgoto hF (off := (-34)) 63 (by decide +kernel) (by decide) ?_
                refine jsub [1, 2, 3, 4, 5, 0] rfl ?_
                refine ih_12 (c + 1) (set2 m2 12 (((D - 1) * 5) + c) (difF (m2 11) (D - 1) c (c + 1).toNat)) ?_ ?_ ?_ ?_ ?_ ?_
                · exact (HR.s hR_m2 (by omega))
                · omega
                · exact hf2.put12 (by omega)
                · (intro n q1 q2; rw [s2_a (by decide)]; exact hv2 n q1 q2)
                · (have w := hpr.step (x := difF (m2 11) (D - 1) c (c + 1).toNat) (by omega) (fun j q1 q2 => hv2 j (by omega) (by omega)) (by rw [show D - 1 = S + mem p 4 by omega]); rw [show (D - 1) * 5 + c = (S + mem p 4) * 5 + c by omega]; exact w)
                · omega
          refine jsub [1, 2, 3, 4, 5, 0] rfl ?_
          refine L_13 _ 0 m ?_ ?_ ?_ ?_ ?_ (Nat.lt_succ_self _)
          · exact hR_m
          · omega
          · exact hf
          · (intro n q1 q2; exact hv n q1 (by omega))
          · (intro j q1 q2; omega)
      · refine jblk hF [(.aload_n 0, 1)] (by decide +kernel) (pc' := 27) (lo' := [(0, (2, 10)), (1, (2, p)), (2, (0, b)), (3, (0, D)), (4, (0, E)), (5, (0, i))]) (st' := [(2, 10)]) rfl ?_
        refine jget hF 3 0 2 0 rfl (by decide) (by decide) rfl wd_198 (by decide +kernel) (by exact hK.k10) ?_
        rw [HR.r10_0 hR_m]
        refine jblk hF [(.iload 5, 2), (.aload_n 1, 1)] (by decide +kernel) (pc' := 33) (lo' := [(0, (2, 10)), (1, (2, p)), (2, (0, b)), (3, (0, D)), (4, (0, E)), (5, (0, i))]) (st' := [(2, p), (0, i), (2, 11)]) rfl ?_
        refine jget hF 4 13 2 13 rfl (by decide) (by decide) rfl wd_719 (by decide +kernel) (by first | assumption | omega) ?_
        refine jblk hF [(.iload 5, 2)] (by decide +kernel) (pc' := 38) (lo' := [(0, (2, 10)), (1, (2, p)), (2, (0, b)), (3, (0, D)), (4, (0, E)), (5, (0, i))]) (st' := [(0, i), (2, m p 13), (0, i), (2, 11)]) rfl ?_
        refine jlald hF (by decide +kernel) (by first | assumption | omega) (by omega) (by omega) ?_
        refine jlast hF (by decide +kernel) (by decide) (by exact hK.k11) (by omega) (by have := hK.l11; omega) ?_
        refine jblk hF [(.iinc 5 1, 3)] (by decide +kernel) (pc' := 43) (lo' := [(5, (0, i + 1)), (0, (2, 10)), (1, (2, p)), (2, (0, b)), (3, (0, D)), (4, (0, E))]) (st' := []) rfl ?_
        refine jgoto hF (off := (-23)) 20 (by decide +kernel) (by decide) ?_
        refine jsub [1, 2, 3, 4, 5, 0] rfl ?_
        refine ih_1 (i + 1) (set2 m 11 i (m (m p 13) i)) ?_ ?_ ?_ ?_ ?_
        · exact (HR.s hR_m (by omega))
        · omega
        · exact hf.put11 (by omega)
        · (intro n q1 q2; by_cases e : n = i; (rw [e, s2_s]; exact hvn i); (rw [s2_k e]; exact hv n q1 (by omega)))
        · omega
  refine jsub [3, 4, 5, 2, 1, 0] rfl ?_
  refine L_2 _ S mem ?_ ?_ ?_ ?_ (Nat.lt_succ_self _)
  · exact hR
  · omega
  · (intro b2 j2 _ _; rfl)
  · (intro n q1 q2; omega)
end
