section
/-! checks hang on the page and on the figures of one block alone -/
def PCE (mem m : Int → Int → Int) (p : Int) : Prop := (∀ k : Int, m p k = mem p k) ∧ m (mem p 11) = mem (mem p 11) ∧ m (mem p 12) = mem (mem p 12) ∧ m (mem p 13) = mem (mem p 13)
theorem PCE.of {mem m : Int → Int → Int} {p : Int} (h : ∀ b j : Int, b ≠ 11 → b ≠ 12 → b ≠ 13 → m b j = mem b j) (hp : 35 ≤ p) (h1 : 35 ≤ mem p 11) (h2 : 35 ≤ mem p 12) (h3 : 35 ≤ mem p 13) : PCE mem m p :=
  ⟨fun k => h p k (by omega) (by omega) (by omega), by funext j; exact h _ j (by omega) (by omega) (by omega), by funext j; exact h _ j (by omega) (by omega) (by omega), by funext j; exact h _ j (by omega) (by omega) (by omega)⟩
theorem sumC_cg {cl cl' : Int → Int} (a : Int) : ∀ k : Nat, (∀ i : Int, a ≤ i → i < a + k → cl i = cl' i) → sumC cl a k = sumC cl' a k := by
  intro k
  induction k with
  | zero => intro _; rfl
  | succ k ih =>
    intro h
    rw [sumC, sumC, ih (fun i h1 h2 => h i h1 (by omega)), h _ (by omega) (by omega)]
theorem hlS_cg {mem m : Int → Int → Int} {nm nm' cl cl' : Int → Int} {p n : Int} (hP : PCE mem m p) (hm : 1 ≤ mem p 7) (ho : 1 ≤ mem p 4) (hn : ∀ i : Int, n - n % mem p 7 ≤ i → i ≤ n → nm i = nm' i) (hc : ∀ i : Int, n - n % mem p 7 + mem p 4 < i → i ≤ n → cl i = cl' i) : hlS m nm cl p n ↔ hlS mem nm' cl' p n := by
  obtain ⟨h1, h2, h3, h4⟩ := hP
  have hq := emod_bd2 n (mem p 7) hm
  unfold hlS ADU
  rw [h1 4, h1 7, h1 11, h1 12, h1 13, h2, h3, h4]
  have e0 : nm n = nm' n := hn n (by omega) (Int.le_refl _)
  by_cases hk : n % mem p 7 ≤ mem p 4
  · rw [e0]
    split
    · exact ⟨fun _ => Or.inl hk, fun _ => Or.inl hk⟩
    · split
      · exact ⟨fun _ => Or.inl hk, fun _ => Or.inl hk⟩
      · exact Iff.rfl
  · have e1 := sumC_cg (cl := cl) (cl' := cl') (n - n % mem p 7 + mem p 4 + 1) (n % mem p 7 - mem p 4).toNat (fun i q1 q2 => hc i (by omega) (by omega))
    have e2 := difF_cg (nm := nm) (nm' := nm') n (mem p 4 + 1) (mem p 4 + 1 + 1).toNat (fun i q1 q2 => hn i (by omega) q2)
    rw [e0, hn (n - n % mem p 7 + mem p 4) (by omega) (by omega), e1, e2]
theorem fcS_cg {mem m : Int → Int → Int} {nm nm' cl cl' : Int → Int} {p a : Int} : ∀ k : Nat, (∀ n : Int, a ≤ n → n < a + k → (hlS m nm cl p n ↔ hlS mem nm' cl' p n)) → fcS m nm cl p a k = fcS mem nm' cl' p a k := by
  intro k
  induction k with
  | zero => intro _; rfl
  | succ k ih =>
    intro h
    rw [fcS, fcS, ih (fun n q1 q2 => h n q1 (by omega)), c01_cg (h _ (by omega) (by omega))]
/-- the figures of a page, as numbers -/
def nmS (mem : Int → Int → Int) (ad : Int → Int) (p : Int) : Int → Int := numF (mem (mem p 13)) ad (mem p 4) (mem p 7)
def clS (mem : Int → Int → Int) (ad : Int → Int) (p : Int) : Int → Int := fun k => rowF (mem (mem p 13)) ad (mem p 4) (mem p 7) k 1
theorem MBL.hl {mem m mx : Int → Int → Int} {ad : Int → Int} {p s e n : Int} (h : MBL mx m (mem (mem p 13)) ad (mem p 4) (mem p 7) s e) (hP : PCE mem m p) (hm : 1 ≤ mem p 7) (ho : 1 ≤ mem p 4) (h0 : 0 ≤ n) (hs : s ≤ n - n % mem p 7) (he : n < e) : hlS m (m 11) (c1F m) p n ↔ hlS mem (nmS mem ad p) (clS mem ad p) p n := by
  have hq := emod_bd2 n (mem p 7) hm
  refine hlS_cg hP hm ho (fun i q1 q2 => h.1 i (by omega) (by omega)) (fun i q1 q2 => ?_)
  have hd := Int.mul_ediv_add_emod n (mem p 7)
  have hs0 : (n - n % mem p 7) % mem p 7 = 0 := by rw [show n - n % mem p 7 = mem p 7 * (n / mem p 7) by omega]; exact Int.mul_emod_right _ _
  have hmi := blk_mod (n := i) (by omega) hs0 (by omega) (by omega)
  exact h.2 i 1 (by omega) (by omega) (by omega) (by omega) (by omega)
/-- lines of one block -/
theorem blk_in {s n m e : Int} (hm : 0 < m) (hs : s % m = 0) (h0 : s ≤ n) (h1 : n < s + m) : s ≤ n - n % m ∧ n - n % m ≤ s := by
  rw [blk_mod hm hs h0 h1]
  omega
theorem MBL.fc {mem m mx : Int → Int → Int} {ad : Int → Int} {p s e : Int} (h : MBL mx m (mem (mem p 13)) ad (mem p 4) (mem p 7) s e) (hP : PCE mem m p) (hm : 1 ≤ mem p 7) (ho : 1 ≤ mem p 4) (h0 : 0 ≤ s) (hs : s % mem p 7 = 0) : ∀ k : Nat, s + k ≤ e → fcS m (m 11) (c1F m) p s k = fcS mem (nmS mem ad p) (clS mem ad p) p s k := by
  intro k hk
  refine fcS_cg k (fun n q1 q2 => h.hl hP hm ho (by omega) ?_ (by omega))
  have hd := Int.mul_ediv_add_emod n (mem p 7)
  have hq := emod_bd2 n (mem p 7) hm
  have h1 := Int.mul_ediv_add_emod s (mem p 7)
  rw [hs] at h1
  have h2 : s / mem p 7 ≤ n / mem p 7 := Int.ediv_le_ediv (by omega) q1
  have h3 := Int.mul_le_mul_of_nonneg_left h2 (show 0 ≤ mem p 7 by omega)
  omega
theorem MBL.sub {mx m : Int → Int → Int} {nr ad : Int → Int} {o ml s e s' e' : Int} (h : MBL mx m nr ad o ml s e) (h1 : s ≤ s') (h2 : e' ≤ e) : MBL mx m nr ad o ml s' e' := ⟨fun n q1 q2 => h.1 n (by omega) (by omega), fun n j q1 q2 => h.2 n j (by omega) (by omega)⟩
/-- with a slip and without it again -/
def adI (ad : Int → Int) (i a : Int) : Int → Int := fun j => if j = i then ad j + a else ad j
def FMB (mem mm : Int → Int → Int) (p q v : Int) : Prop := v = fcS mem (nmS mem (adI (mem 13) (mem q 1 * 5 + slotV (mem q 2)) (mem q 3)) p) (clS mem (adI (mem 13) (mem q 1 * 5 + slotV (mem q 2)) (mem q 3)) p) p (mem q 1 / mem p 7 * mem p 7) (enV mem p (mem q 1 / mem p 7) - mem q 1 / mem p 7 * mem p 7).toNat - fcS mem (nmS mem (mem 13) p) (clS mem (mem 13) p) p (mem q 1 / mem p 7 * mem p 7) (enV mem p (mem q 1 / mem p 7) - mem q 1 / mem p 7 * mem p 7).toNat ∧ FPG mem mm p (mem p 2)
theorem fmb_of {mem m1 m2 m3 m4 : Int → Int → Int} {p b i a s e f1 f2 : Int} (hm1 : m1 = set2 mem 13 i (mem 13 i + a)) (h2 : MBP m1 m2 p b) (hm3 : m3 = set2 m2 13 i (m2 13 i + -a)) (h4 : MBP m3 m4 p b) (hPB : PB mem p) (hp : 35 ≤ p) (h11 : 35 ≤ mem p 11) (h12 : 35 ≤ mem p 12) (h13 : 35 ≤ mem p 13) (hFS : MBL mem mem (mem (mem p 13)) (mem 13) (mem p 4) (mem p 7) 0 (mem p 2)) (hs : s = b * mem p 7) (he : e = enV mem p b) (hse : 0 ≤ s ∧ s ≤ e ∧ e ≤ mem p 2 ∧ e ≤ s + mem p 7)
    (hf1 : f1 = fcS mem (mem 11) (c1F mem) p s (e - s).toNat) (hf2 : f2 = fcS m2 (m2 11) (c1F m2) p s (e - s).toNat) : f1 = fcS mem (nmS mem (mem 13) p) (clS mem (mem 13) p) p s (e - s).toNat ∧ f2 = fcS mem (nmS mem (adI (mem 13) i a) p) (clS mem (adI (mem 13) i a) p) p s (e - s).toNat ∧ FPG mem m4 p (mem p 2) := by
  have hsm : s % mem p 7 = 0 := by rw [hs]; exact Int.mul_emod_left _ _
  have g1 : ∀ b j : Int, b ≠ 13 → m1 b j = mem b j := fun b j q => by rw [hm1]; exact s2_a q
  have a1 : m1 13 = adI (mem 13) i a := by
    funext j
    rw [hm1]
    unfold adI
    by_cases ej : j = i
    · rw [ej, s2_s, if_pos rfl]
    · rw [s2_k ej, if_neg ej]
  have n1 : m1 (mem p 13) = mem (mem p 13) := by funext j; exact g1 _ j (by omega)
  unfold MBP at h2 h4
  rw [g1 p 13 (by omega), n1, a1, g1 p 4 (by omega), g1 p 7 (by omega), enV_cg (g1 p 2 (by omega)) (g1 p 7 (by omega)), ← hs, ← he] at h2
  have g2 : ∀ b j : Int, b ≠ 11 → b ≠ 12 → b ≠ 13 → m2 b j = mem b j := fun b j q1 q2 q3 => (h2.1 b j (by omega) (by omega)).trans (g1 b j q3)
  have g3 : ∀ b j : Int, b ≠ 11 → b ≠ 12 → b ≠ 13 → m3 b j = mem b j := fun b j q1 q2 q3 => by rw [hm3, s2_a q3]; exact g2 b j q1 q2 q3
  have a3 : m3 13 = mem 13 := by
    funext j
    have e2 : ∀ j : Int, m2 13 j = adI (mem 13) i a j := fun j => (h2.1 13 j (by omega) (by omega)).trans (congrFun a1 j)
    rw [hm3]
    by_cases ej : j = i
    · rw [ej, s2_s, e2 i]
      unfold adI
      rw [if_pos rfl]
      omega
    · rw [s2_k ej, e2 j]
      unfold adI
      rw [if_neg ej]
  have n3 : m3 (mem p 13) = mem (mem p 13) := by funext j; exact g3 _ j (by omega) (by omega) (by omega)
  have q2 := g3 p 2 (by omega) (by omega) (by omega)
  have q7 := g3 p 7 (by omega) (by omega) (by omega)
  rw [g3 p 13 (by omega) (by omega) (by omega), n3, a3, g3 p 4 (by omega) (by omega) (by omega), q7, enV_cg q2 q7, ← hs, ← he] at h4
  have P0 : PCE mem mem p := ⟨fun _ => rfl, rfl, rfl, rfl⟩
  refine ⟨?_, ?_, ?_, ?_, ?_⟩
  · rw [hf1]
    exact hFS.fc P0 (by omega) (by omega) (Int.le_refl 0) (Int.zero_emod _) |> fun _ => (hFS.sub hse.1 hse.2.2.1).fc P0 (by omega) (by omega) hse.1 hsm _ (by omega)
  · rw [hf2]
    exact h2.2.fc (PCE.of g2 hp h11 h12 h13) (by omega) (by omega) hse.1 hsm _ (by omega)
  · intro b j q1 q2
    by_cases e13 : b = 13
    · rw [e13, h4.1 13 j (by omega) (by omega), a3]
    · exact (h4.1 b j (by omega) (by omega)).trans (g3 b j q1 q2 e13)
  · intro n q1 q2
    by_cases qn : s ≤ n ∧ n < e
    · exact h4.2.1 n qn.1 qn.2
    · rw [h4.1 11 n (by omega) (by omega), hm3, s2_a (by decide), h2.1 11 n (by omega) (by omega), g1 11 n (by decide)]
      exact hFS.1 n q1 q2
  · intro n j q1 q2 q3 q4 q5
    by_cases qn : s ≤ n ∧ n < e
    · exact h4.2.2 n j qn.1 qn.2 q3 q4 q5
    · rw [h4.1 12 _ (by omega) (by omega), hm3, s2_a (by decide), h2.1 12 _ (by omega) (by omega), g1 12 _ (by decide)]
      exact hFS.2 n j q1 q2 q3 q4 q5
theorem PCE.pb {mem m : Int → Int → Int} {p : Int} (h : PCE mem m p) (hPB : PB mem p) : PB m p := by
  show 2 ≤ m p 2 ∧ m p 2 ≤ 40 ∧ 1 ≤ m p 1 ∧ m p 1 ≤ 9999 ∧ 1 ≤ m p 3 ∧ m p 3 ≤ 50 ∧ 1 ≤ m p 4 ∧ m p 4 ≤ 4 ∧ 0 ≤ m p 5 ∧ m p 5 ≤ 5 ∧ 0 ≤ m p 6 ∧ m p 5 + m p 6 ≤ 6 ∧ m p 4 + 2 ≤ m p 7 ∧ m p 7 ≤ 40 ∧ 0 ≤ m p 8 ∧ m p 8 ≤ 2
  rw [h.1 1, h.1 2, h.1 3, h.1 4, h.1 5, h.1 6, h.1 7, h.1 8]
  exact hPB
theorem PCE.ar {kd : Int → Nat} {ln : Int → Int} {mem m : Int → Int → Int} {p : Int} (h : PCE mem m p) (k : Int) {c : Nat} {x : Int} (ha : kd (mem p k) = c ∧ ln (mem p k) = x ∧ 35 ≤ mem p k) : kd (m p k) = c ∧ ln (m p k) = x ∧ 35 ≤ m p k := by rw [h.1 k]; exact ha
theorem PCE.ar2 {kd : Int → Nat} {ln : Int → Int} {mem m : Int → Int → Int} {p : Int} (h : PCE mem m p) (k : Int) {c : Nat} {x : Int} (ha : kd (mem p k) = c ∧ ln (mem p k) = x ∧ 35 ≤ mem p k) : kd (m p k) = c ∧ ln (m p k) = x := by rw [h.1 k]; exact ⟨ha.1, ha.2.1⟩
theorem PCE.ci {mem m : Int → Int → Int} {p : Int} (h : PCE mem m p) (hci : ∀ i : Int, 0 ≤ i → i < mem p 2 → InI (mem (mem p 11) i) ∧ InI (mem (mem p 12) i)) : ∀ i : Int, 0 ≤ i → i < m p 2 → InI (m (m p 11) i) ∧ InI (m (m p 12) i) := by
  rw [h.1 2, h.1 11, h.1 12, h.2.1, h.2.2.1]
  exact hci
set_option maxHeartbeats 4000000 in
set_option maxRecDepth 100000 in
theorem c_X2_failsMoreBy {l : Launch} {g : GP} (hG : GH g) {kd : Int → Nat} {ln : Int → Int} {mem : Int → Int → Int} {sz : Nat} (hK : HK kd ln) (hR : HR mem) (p sl : Int) (hkp : kd p = 5) (hp0 : 0 ≤ p) (hPB : PB mem p) (hp35 : 35 ≤ p) (h11 : kd (mem p 11) = 20 ∧ ln (mem p 11) = 40 ∧ 35 ≤ mem p 11) (h12 : kd (mem p 12) = 20 ∧ ln (mem p 12) = 40 ∧ 35 ≤ mem p 12) (h13 : kd (mem p 13) = 21 ∧ ln (mem p 13) = 40 ∧ 35 ≤ mem p 13) (hci : ∀ i : Int, 0 ≤ i → i < mem p 2 → InI (mem (mem p 11) i) ∧ InI (mem (mem p 12) i)) (hkq : kd sl = 10) (hq35 : 35 ≤ sl) (hsl : 0 ≤ mem sl 1 ∧ mem sl 1 < mem p 2 ∧ (mem sl 2 = 9 ∨ (0 ≤ mem sl 2 ∧ mem sl 2 ≤ 4)) ∧ -1000000 ≤ mem sl 3 ∧ mem sl 3 ≤ 1000000) (hFS : MBL mem mem (mem (mem p 13)) (mem 13) (mem p 4) (mem p 7) 0 (mem p 2)) : MT l g yX2_failsMoreBy cX2_failsMoreBy 8 (some .int) 6 0 0 [(2, 10), (2, p), (2, sl)] kd ln mem sz (pMR 0 (fun v mem' => HR mem' ∧ (FMB mem mem' p sl v)) kd ln sz) := by
  refine MT_of hG (by decide +kernel) (Nat.le_of_ble_eq_true rfl) (fun z hF hr hn => ?_)
  have ⟨b1, b2, b3, b4, b5, b6, b7, b8, b9, b10, b11, b12, b13, b14, b15, b16⟩ := hPB
  have hP0 : PCE mem mem p := ⟨fun _ => rfl, rfl, rfl, rfl⟩
  have hdb := (ediv_bd (mem sl 1) (mem p 7) (by omega)).1 (by omega)
  have hS0 : 0 ≤ mem sl 1 / mem p 7 * mem p 7 ∧ mem sl 1 / mem p 7 * mem p 7 ≤ mem sl 1 ∧ mem sl 1 < mem sl 1 / mem p 7 * mem p 7 + mem p 7 := ⟨Int.mul_nonneg (by omega) (by omega), (ediv_mul_bd _ _ (by omega)).1, (ediv_mul_bd _ _ (by omega)).2⟩
  have hen : enV mem p (mem sl 1 / mem p 7) ≤ mem sl 1 / mem p 7 * mem p 7 + mem p 7 ∧ mem sl 1 < enV mem p (mem sl 1 / mem p 7) ∧ enV mem p (mem sl 1 / mem p 7) ≤ mem p 2 := by
    unfold enV
    rw [show (mem sl 1 / mem p 7 + 1) * mem p 7 = mem sl 1 / mem p 7 * mem p 7 + mem p 7 by rw [Int.add_mul, Int.one_mul]]
    split <;> omega
  have hsv : 0 ≤ slotV (mem sl 2) ∧ slotV (mem sl 2) ≤ 4 := by unfold slotV; split <;> omega
  refine jblk hF [(.aload_n 1, 1), (.aload_n 2, 1)] (by decide +kernel) (pc' := 2) (lo' := [(0, (2, 10)), (1, (2, p)), (2, (2, sl))]) (st' := [(2, sl), (2, p)]) rfl ?_
  refine jget hF 9 1 0 1 rfl (by decide) (by decide) rfl wd_904 (by decide +kernel) (by first | assumption | omega) ?_
  refine jcallV hF (c_X3_blockOf hG p (mem sl 1) (by first | assumption | omega) (by omega) (by omega) (by omega)) MW_X3_blockOf 4 (by decide) (by first | assumption | omega) wd_977 wd_790 wd_791 (by decide +kernel) [] rfl rfl (by decide) (Nat.le_of_ble_eq_true rfl) (by decide) (kV ?_)
  refine jblk hF [(.istore_n 3, 1)] (by decide +kernel) (pc' := 9) (lo' := [(3, (0, (mem sl 1) / mem p 7)), (0, (2, 10)), (1, (2, p)), (2, (2, sl))]) (st' := []) rfl ?_
  obtain ⟨b, hb⟩ : ∃ q : Int, q = (mem sl 1) / mem p 7 := ⟨_, rfl⟩
  rw [← hb]
  rw [← hb] at hdb hS0 hen
  refine jblk hF [(.aload_n 1, 1), (.iload_n 3, 1)] (by decide +kernel) (pc' := 11) (lo' := [(3, (0, b)), (0, (2, 10)), (1, (2, p)), (2, (2, sl))]) (st' := [(0, b), (2, p)]) rfl ?_
  refine jcallV hF (c_X3_startOf hG p b (by first | assumption | omega) (by omega) (by omega) (by omega)) MW_X3_startOf 4 (by decide) (by first | assumption | omega) wd_836 wd_831 wd_832 (by decide +kernel) [] rfl rfl (by decide) (Nat.le_of_ble_eq_true rfl) (by decide) (kV ?_)
  refine jblk hF [(.istore 4, 2)] (by decide +kernel) (pc' := 16) (lo' := [(4, (0, b * mem p 7)), (3, (0, b)), (0, (2, 10)), (1, (2, p)), (2, (2, sl))]) (st' := []) rfl ?_
  obtain ⟨S1, hS1⟩ : ∃ q : Int, q = b * mem p 7 := ⟨_, rfl⟩
  rw [← hS1]
  rw [← hS1] at hS0 hen
  refine jblk hF [(.aload_n 1, 1), (.iload_n 3, 1)] (by decide +kernel) (pc' := 18) (lo' := [(4, (0, S1)), (3, (0, b)), (0, (2, 10)), (1, (2, p)), (2, (2, sl))]) (st' := [(0, b), (2, p)]) rfl ?_
  refine jcallV hF (c_X3_endOf hG p b (by first | assumption | omega) (by omega) (by assumption) (by omega)) MW_X3_endOf 4 (by decide) (by first | assumption | omega) wd_835 wd_827 wd_828 (by decide +kernel) [] rfl rfl (by decide) (Nat.le_of_ble_eq_true rfl) (by decide) (kV ?_)
  refine jblk hF [(.istore 5, 2)] (by decide +kernel) (pc' := 23) (lo' := [(5, (0, enV mem p b)), (4, (0, S1)), (3, (0, b)), (0, (2, 10)), (1, (2, p)), (2, (2, sl))]) (st' := []) rfl ?_
  obtain ⟨E1, hE1⟩ : ∃ q : Int, q = enV mem p b := ⟨_, rfl⟩
  rw [← hE1]
  rw [← hE1] at hen
  refine jblk hF [(.aload_n 0, 1), (.aload_n 1, 1), (.iload 4, 2), (.iload 5, 2)] (by decide +kernel) (pc' := 29) (lo' := [(5, (0, E1)), (4, (0, S1)), (3, (0, b)), (0, (2, 10)), (1, (2, p)), (2, (2, sl))]) (st' := [(0, E1), (0, S1), (2, p), (2, 10)]) rfl ?_
  refine jcallV hF (c_X2_failsFrom hG hK hR p S1 E1 (by first | assumption | omega) (by omega) (by exact hP0.pb hPB) (by omega) (by exact ⟨by omega, by omega, by rw [hP0.1 2]; omega⟩) (by exact hP0.ar2 11 h11) (by exact hP0.ar2 12 h12) (by exact hP0.ar2 13 h13) (by exact hP0.ci hci)) MW_X2_failsFrom 3 (by decide) (by exact hK.k10) wd_1031 wd_965 wd_966 (by decide +kernel) [] rfl rfl (by decide) (Nat.le_of_ble_eq_true rfl) (by decide) (kV ?_)
  refine jblk hF [(.istore 6, 2)] (by decide +kernel) (pc' := 34) (lo' := [(6, (0, fcS mem (mem 11) (c1F mem) p S1 (E1 - S1).toNat)), (5, (0, E1)), (4, (0, S1)), (3, (0, b)), (0, (2, 10)), (1, (2, p)), (2, (2, sl))]) (st' := []) rfl ?_
  obtain ⟨f1, hf1⟩ : ∃ q : Int, q = fcS mem (mem 11) (c1F mem) p S1 (E1 - S1).toNat := ⟨_, rfl⟩
  rw [← hf1]
  refine jblk hF [(.aload_n 0, 1), (.aload_n 2, 1)] (by decide +kernel) (pc' := 36) (lo' := [(6, (0, f1)), (5, (0, E1)), (4, (0, S1)), (3, (0, b)), (0, (2, 10)), (1, (2, p)), (2, (2, sl))]) (st' := [(2, sl), (2, 10)]) rfl ?_
  refine jget hF 9 1 0 1 rfl (by decide) (by decide) rfl wd_904 (by decide +kernel) (by first | assumption | omega) ?_
  refine jblk hF [(.aload_n 2, 1)] (by decide +kernel) (pc' := 40) (lo' := [(6, (0, f1)), (5, (0, E1)), (4, (0, S1)), (3, (0, b)), (0, (2, 10)), (1, (2, p)), (2, (2, sl))]) (st' := [(2, sl), (0, mem sl 1), (2, 10)]) rfl ?_
  refine jget hF 9 2 0 2 rfl (by decide) (by decide) rfl wd_907 (by decide +kernel) (by first | assumption | omega) ?_
  refine jblk hF [(.aload_n 2, 1)] (by decide +kernel) (pc' := 44) (lo' := [(6, (0, f1)), (5, (0, E1)), (4, (0, S1)), (3, (0, b)), (0, (2, 10)), (1, (2, p)), (2, (2, sl))]) (st' := [(2, sl), (0, mem sl 2), (0, mem sl 1), (2, 10)]) rfl ?_
  refine jget hF 9 3 0 3 rfl (by decide) (by decide) rfl wd_910 (by decide +kernel) (by first | assumption | omega) ?_
  refine ji2l hF (by decide +kernel) (by omega) ?_
  refine jcallV hF (c_X2_add hG hK hR (mem sl 1) (mem sl 2) (mem sl 3) (by omega)) MW_X2_add 3 (by decide) (by exact hK.k10) wd_1032 wd_953 wd_954 (by decide +kernel) [] rfl rfl (by decide) (Nat.le_of_ble_eq_true rfl) (by decide) (kMV (fun m_1 h_2 => ?_))
  obtain ⟨hR_m_1, h_2⟩ := h_2
  have hm1 := h_2
  have fm1 : ∀ b j : Int, b ≠ 11 → b ≠ 12 → b ≠ 13 → m_1 b j = mem b j := fun b j _ _ q => by rw [hm1]; exact s2_a q
  have hPm1 : PCE mem m_1 p := PCE.of fm1 hp35 h11.2.2 h12.2.2 h13.2.2
  have qm11 : m_1 sl 1 = mem sl 1 := fm1 sl 1 (by omega) (by omega) (by omega)
  have qm12 : m_1 sl 2 = mem sl 2 := fm1 sl 2 (by omega) (by omega) (by omega)
  have qm13 : m_1 sl 3 = mem sl 3 := fm1 sl 3 (by omega) (by omega) (by omega)
  refine jblk hF [(.aload_n 0, 1), (.aload_n 1, 1), (.iload_n 3, 1)] (by decide +kernel) (pc' := 54) (lo' := [(6, (0, f1)), (5, (0, E1)), (4, (0, S1)), (3, (0, b)), (0, (2, 10)), (1, (2, p)), (2, (2, sl))]) (st' := [(0, b), (2, p), (2, 10)]) rfl ?_
  refine jcallV hF (c_X2_makeBlock hG hK hR_m_1 p b (by first | assumption | omega) (by omega) (by exact hPm1.pb hPB) (by exact hPm1.ar 13 h13) (by omega) (by exact ⟨by omega, by rw [hPm1.1 7, hPm1.1 2, ← hS1]; omega⟩)) MW_X2_makeBlock 3 (by decide) (by exact hK.k10) wd_818 wd_820 wd_p22 (by decide +kernel) [] rfl rfl (by decide) (Nat.le_of_ble_eq_true rfl) (by decide) (kMV (fun m_3 h_4 => ?_))
  obtain ⟨hR_m_3, h_4⟩ := h_4
  have h2 := h_4
  have fm2 : ∀ b j : Int, b ≠ 11 → b ≠ 12 → b ≠ 13 → m_3 b j = mem b j := fun b j q1 q2 q3 => (h2.1 b j (by omega) (by omega)).trans (fm1 b j q1 q2 q3)
  have hPm2 : PCE mem m_3 p := PCE.of fm2 hp35 h11.2.2 h12.2.2 h13.2.2
  have qm21 : m_3 sl 1 = mem sl 1 := fm2 sl 1 (by omega) (by omega) (by omega)
  have qm22 : m_3 sl 2 = mem sl 2 := fm2 sl 2 (by omega) (by omega) (by omega)
  have qm23 : m_3 sl 3 = mem sl 3 := fm2 sl 3 (by omega) (by omega) (by omega)
  refine jblk hF [(.aload_n 0, 1), (.aload_n 1, 1), (.iload 4, 2), (.iload 5, 2)] (by decide +kernel) (pc' := 63) (lo' := [(6, (0, f1)), (5, (0, E1)), (4, (0, S1)), (3, (0, b)), (0, (2, 10)), (1, (2, p)), (2, (2, sl))]) (st' := [(0, E1), (0, S1), (2, p), (2, 10)]) rfl ?_
  refine jcallV hF (c_X2_failsFrom hG hK hR_m_3 p S1 E1 (by first | assumption | omega) (by omega) (by exact hPm2.pb hPB) (by omega) (by exact ⟨by omega, by omega, by rw [hPm2.1 2]; omega⟩) (by exact hPm2.ar2 11 h11) (by exact hPm2.ar2 12 h12) (by exact hPm2.ar2 13 h13) (by exact hPm2.ci hci)) MW_X2_failsFrom 3 (by decide) (by exact hK.k10) wd_1031 wd_965 wd_966 (by decide +kernel) [] rfl rfl (by decide) (Nat.le_of_ble_eq_true rfl) (by decide) (kV ?_)
  refine jblk hF [(.istore 7, 2)] (by decide +kernel) (pc' := 68) (lo' := [(7, (0, fcS m_3 (m_3 11) (c1F m_3) p S1 (E1 - S1).toNat)), (6, (0, f1)), (5, (0, E1)), (4, (0, S1)), (3, (0, b)), (0, (2, 10)), (1, (2, p)), (2, (2, sl))]) (st' := []) rfl ?_
  obtain ⟨f2, hf2⟩ : ∃ q : Int, q = fcS m_3 (m_3 11) (c1F m_3) p S1 (E1 - S1).toNat := ⟨_, rfl⟩
  rw [← hf2]
  refine jblk hF [(.aload_n 0, 1), (.aload_n 2, 1)] (by decide +kernel) (pc' := 70) (lo' := [(7, (0, f2)), (6, (0, f1)), (5, (0, E1)), (4, (0, S1)), (3, (0, b)), (0, (2, 10)), (1, (2, p)), (2, (2, sl))]) (st' := [(2, sl), (2, 10)]) rfl ?_
  refine jget hF 9 1 0 1 rfl (by decide) (by decide) rfl wd_904 (by decide +kernel) (by first | assumption | omega) ?_
  refine jblk hF [(.aload_n 2, 1)] (by decide +kernel) (pc' := 74) (lo' := [(7, (0, f2)), (6, (0, f1)), (5, (0, E1)), (4, (0, S1)), (3, (0, b)), (0, (2, 10)), (1, (2, p)), (2, (2, sl))]) (st' := [(2, sl), (0, m_3 sl 1), (2, 10)]) rfl ?_
  refine jget hF 9 2 0 2 rfl (by decide) (by decide) rfl wd_907 (by decide +kernel) (by first | assumption | omega) ?_
  refine jblk hF [(.aload_n 2, 1)] (by decide +kernel) (pc' := 78) (lo' := [(7, (0, f2)), (6, (0, f1)), (5, (0, E1)), (4, (0, S1)), (3, (0, b)), (0, (2, 10)), (1, (2, p)), (2, (2, sl))]) (st' := [(2, sl), (0, m_3 sl 2), (0, m_3 sl 1), (2, 10)]) rfl ?_
  refine jget hF 9 3 0 3 rfl (by decide) (by decide) rfl wd_910 (by decide +kernel) (by first | assumption | omega) ?_
  refine jblk hF [(.ineg, 1)] (by decide +kernel) (pc' := 82) (lo' := [(7, (0, f2)), (6, (0, f1)), (5, (0, E1)), (4, (0, S1)), (3, (0, b)), (0, (2, 10)), (1, (2, p)), (2, (2, sl))]) (st' := [(0, -(m_3 sl 3)), (0, m_3 sl 2), (0, m_3 sl 1), (2, 10)]) rfl ?_
  refine ji2l hF (by decide +kernel) (by omega) ?_
  refine jcallV hF (c_X2_add hG hK hR_m_3 (m_3 sl 1) (m_3 sl 2) (-(m_3 sl 3)) (by omega)) MW_X2_add 3 (by decide) (by exact hK.k10) wd_1032 wd_953 wd_954 (by decide +kernel) [] rfl rfl (by decide) (Nat.le_of_ble_eq_true rfl) (by decide) (kMV (fun m_5 h_6 => ?_))
  obtain ⟨hR_m_5, h_6⟩ := h_6
  have hm3 := h_6
  have fm3 : ∀ b j : Int, b ≠ 11 → b ≠ 12 → b ≠ 13 → m_5 b j = mem b j := fun b j q1 q2 q3 => by rw [hm3, s2_a q3]; exact fm2 b j q1 q2 q3
  have hPm3 : PCE mem m_5 p := PCE.of fm3 hp35 h11.2.2 h12.2.2 h13.2.2
  have qm31 : m_5 sl 1 = mem sl 1 := fm3 sl 1 (by omega) (by omega) (by omega)
  have qm32 : m_5 sl 2 = mem sl 2 := fm3 sl 2 (by omega) (by omega) (by omega)
  have qm33 : m_5 sl 3 = mem sl 3 := fm3 sl 3 (by omega) (by omega) (by omega)
  refine jblk hF [(.aload_n 0, 1), (.aload_n 1, 1), (.iload_n 3, 1)] (by decide +kernel) (pc' := 89) (lo' := [(7, (0, f2)), (6, (0, f1)), (5, (0, E1)), (4, (0, S1)), (3, (0, b)), (0, (2, 10)), (1, (2, p)), (2, (2, sl))]) (st' := [(0, b), (2, p), (2, 10)]) rfl ?_
  refine jcallV hF (c_X2_makeBlock hG hK hR_m_5 p b (by first | assumption | omega) (by omega) (by exact hPm3.pb hPB) (by exact hPm3.ar 13 h13) (by omega) (by exact ⟨by omega, by rw [hPm3.1 7, hPm3.1 2, ← hS1]; omega⟩)) MW_X2_makeBlock 3 (by decide) (by exact hK.k10) wd_818 wd_820 wd_p22 (by decide +kernel) [] rfl rfl (by decide) (Nat.le_of_ble_eq_true rfl) (by decide) (kMV (fun m_7 h_8 => ?_))
  obtain ⟨hR_m_7, h_8⟩ := h_8
  have h4 := h_8
  refine jblk hF [(.iload 7, 2), (.iload 6, 2), (.isub, 1)] (by decide +kernel) (pc' := 97) (lo' := [(7, (0, f2)), (6, (0, f1)), (5, (0, E1)), (4, (0, S1)), (3, (0, b)), (0, (2, 10)), (1, (2, p)), (2, (2, sl))]) (st' := [(0, f2 - f1)]) rfl ?_
  refine jiret hF hr (by decide +kernel) ?_
  exact lMR ⟨hR_m_7, by (rw [qm21, qm22, qm23] at hm3; have hsl2 : m_3 13 = m_3 13 := rfl; have hz := fmb_of hm1 h2 hm3 h4 hPB hp35 h11.2.2 h12.2.2 h13.2.2 hFS hS1 hE1 (by omega) hf1 hf2; unfold FMB; rw [← hb, ← hS1, ← hE1, ← hz.1, ← hz.2.1]; exact ⟨rfl, hz.2.2⟩)⟩
end
