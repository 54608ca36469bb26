section
/-! rows made one behind the other in a constructor -/
def SNJ (m0 : Int → Int → Int) (p s0 : Int) (P : List (Int × Nat × Int)) (i : Nat) (kd : Int → Nat) (ln : Int → Int) (m : Int → Int → Int) : Prop :=
  (∀ t : Nat, t < i → ∀ w : Int × Nat × Int, P[t]? = some w → m p w.1 = s0 + t ∧ kd (s0 + t) = w.2.1 ∧ ln (s0 + t) = w.2.2 ∧ ∀ j : Int, m (s0 + t) j = 0) ∧ (∀ b j : Int, b ≠ p → b < s0 → m b j = m0 b j) ∧ ∀ j : Int, (∀ t : Nat, t < i → (P[t]?).map Prod.fst ≠ some j) → m p j = m0 p j
theorem SNJ.start (m0 : Int → Int → Int) (p s0 : Int) (P : List (Int × Nat × Int)) (kd : Int → Nat) (ln : Int → Int) : SNJ m0 p s0 P 0 kd ln m0 := ⟨fun t h => by omega, fun _ _ _ _ => rfl, fun _ _ => rfl⟩
theorem SNJ.put {m0 : Int → Int → Int} {p s0 : Int} {P : List (Int × Nat × Int)} {i : Nat} {kd : Int → Nat} {ln : Int → Int} {m : Int → Int → Int} (h : SNJ m0 p s0 P i kd ln m) (hp : p < s0) (k v : Int) (hk : ∀ t : Nat, t < i → (P[t]?).map Prod.fst ≠ some k) : SNJ (set2 m0 p k v) p s0 P i kd ln (set2 m p k v) := by
  obtain ⟨h1, h2, h3⟩ := h
  refine ⟨fun t q1 w q2 => ?_, fun b j q1 q2 => by rw [s2_a q1, s2_a q1]; exact h2 b j q1 q2, fun j q1 => ?_⟩
  · have g := h1 t q1 w q2
    refine ⟨?_, g.2.1, g.2.2.1, fun j => by rw [s2_a (by omega)]; exact g.2.2.2 j⟩
    rw [s2_k (fun e => hk t q1 (by rw [q2, ← e]; rfl))]
    exact g.1
  · by_cases e : j = k
    · rw [e, s2_s, s2_s]
    · rw [s2_k e, s2_k e]; exact h3 j q1
theorem SNJ.step {m0 : Int → Int → Int} {p s0 k a y : Int} {c : Nat} {P : List (Int × Nat × Int)} {i : Nat} {kd kd' : Int → Nat} {ln ln' : Int → Int} {m m' : Int → Int → Int} {sz sz' : Nat} (h : SNJ m0 p s0 P i kd ln m) (hq : P[i]? = some (k, c, y)) (hnk : ∀ t : Nat, t < i → (P[t]?).map Prod.fst ≠ some k) (hp : p < s0) (hE : EXT kd ln sz kd' ln' sz') (hs : ((sz : Nat) : Int) = s0 + i) (ha : a = sz) (hk : kd' a = c) (hl : ln' a = y) (hmo : ∀ b j : Int, b ≠ a → m' b j = m b j) (hmn : ∀ j : Int, m' a j = 0) : SNJ m0 p s0 P (i + 1) kd' ln' (set2 m' p k a) := by
  obtain ⟨h1, h2, h3⟩ := h
  refine ⟨fun t q1 w q2 => ?_, fun b j q1 q2 => by rw [s2_a q1, hmo b j (by omega)]; exact h2 b j q1 q2, fun j q1 => ?_⟩
  · by_cases e : t = i
    · subst e
      rw [hq] at q2
      cases q2
      rw [← hs, ← ha]
      exact ⟨s2_s, hk, hl, fun j => by rw [s2_a (by omega)]; exact hmn j⟩
    · have g := h1 t (by omega) w q2
      have e2 := hE.2 (s0 + t) (by omega)
      refine ⟨?_, e2.1.trans g.2.1, e2.2.trans g.2.2.1, fun j => by rw [s2_a (by omega), hmo _ _ (by omega)]; exact g.2.2.2 j⟩
      rw [s2_k (fun e3 => hnk t (by omega) (by rw [q2, ← e3]; rfl)), hmo p _ (by omega)]
      exact g.1
  · have hjk : j ≠ k := fun e => q1 i (by omega) (by rw [hq, e]; rfl)
    rw [s2_k hjk, hmo p j (by omega)]
    exact h3 j (fun t q2 => q1 t (by omega))
def PX2_init : List (Int × Nat × Int) := [(0, 21, 40), (1, 21, 200), (2, 21, 200)]
def PX4_init : List (Int × Nat × Int) := [(0, 21, 40), (1, 21, 280), (2, 20, 40), (3, 21, 5)]
def PX6_init : List (Int × Nat × Int) := [(0, 21, 40), (1, 20, 4), (2, 20, 4), (3, 21, 4), (4, 20, 4), (5, 20, 4), (6, 21, 4)]
def PX12_init : List (Int × Nat × Int) := [(3, 20, 10), (4, 20, 10), (5, 20, 10), (7, 20, 160), (8, 20, 620), (9, 20, 7440), (10, 20, 12), (17, 20, 128), (18, 20, 200), (20, 20, 12), (21, 20, 12), (22, 20, 12), (23, 20, 12), (24, 20, 12), (25, 20, 12), (26, 20, 12), (27, 20, 12), (28, 20, 12), (29, 20, 480), (30, 20, 480), (31, 20, 480), (32, 20, 480), (34, 20, 480), (35, 21, 200), (36, 21, 200), (37, 21, 40), (38, 21, 5), (39, 20, 60), (40, 20, 60), (41, 20, 60), (42, 20, 60), (43, 20, 60), (44, 20, 60), (47, 21, 40), (48, 21, 40), (49, 20, 4), (50, 20, 4), (51, 21, 4), (52, 20, 4), (53, 20, 4), (54, 21, 4), (60, 20, 40), (61, 20, 40), (62, 20, 40), (63, 20, 40), (64, 20, 40), (66, 22, 12), (67, 21, 480), (68, 20, 80), (69, 20, 80), (70, 20, 80), (71, 20, 80), (73, 20, 8), (74, 21, 320), (75, 20, 40), (76, 20, 40), (77, 21, 40), (78, 21, 40), (81, 20, 8), (82, 21, 320), (83, 22, 320), (85, 20, 8), (86, 22, 8), (87, 21, 320)]
set_option maxHeartbeats 4000000 in
set_option maxRecDepth 100000 in
theorem c_X2_init {l : Launch} {g : GP} (hG : GH g) {kd : Int → Nat} {ln : Int → Int} {mem : Int → Int → Int} {sz : Nat} (p : Int) (hkp : kd p = 4) (hp0 : 0 ≤ p) (hps : p < sz) : MT l g yX2_init cX2_init 1 none 1 3 440 [(2, p)] kd ln mem sz (pXV (fun kd' ln' mem' sz' => (sz' = sz + 3 ∧ SNJ (mem) p sz PX2_init 3 kd' ln' mem')) kd ln sz) := by
  refine MT_of hG (by decide +kernel) (Nat.le_of_ble_eq_true rfl) (fun z hF hr hn => ?_)
  refine jblk hF [(.aload_n 0, 1)] (by decide +kernel) (pc' := 1) (lo' := [(0, (2, p))]) (st' := [(2, p)]) rfl ?_
  refine jobj hF (by omega) wd_197 wd_133 wd_objcode (by decide +kernel) (by decide) ?_
  refine jblk hF [(.aload_n 0, 1)] (by decide +kernel) (pc' := 5) (lo' := [(0, (2, p))]) (st' := [(2, p)]) rfl ?_
  have hS0 := SNJ.start mem p sz PX2_init kd ln
  refine jblk hF [(.bipush 40, 2)] (by decide +kernel) (pc' := 7) (lo' := [(0, (2, p))]) (st' := [(0, 40), (2, p)]) rfl ?_
  refine jnewa hF (at' := .long) 1 (by decide) rfl wd_210 (by decide +kernel) (by omega) (by omega) ⟨Nat.le_of_ble_eq_true rfl, Nat.le_of_ble_eq_true rfl⟩ ?_
  obtain ⟨kd_1, hkd_1⟩ : ∃ q : Int → Nat, q = upK kd ((sz : Nat) : Int) (21) := ⟨_, rfl⟩
  obtain ⟨ln_1, hln_1⟩ : ∃ q : Int → Int, q = upL ln ((sz : Nat) : Int) 40 := ⟨_, rfl⟩
  obtain ⟨m_1, hm_1⟩ : ∃ q : Int → Int → Int, q = newA 0 mem ((sz : Nat) : Int) := ⟨_, rfl⟩
  obtain ⟨sz_1, hsz_1⟩ : ∃ q : Nat, q = sz + 1 := ⟨_, rfl⟩
  obtain ⟨a_1, ha_1⟩ : ∃ q : Int, q = ((sz : Nat) : Int) := ⟨_, rfl⟩
  rw [← hkd_1, ← hln_1, ← hm_1, ← hsz_1]
  rw [← ha_1]
  have hk_1 : kd_1 a_1 = 21 := by rw [ha_1, hkd_1]; exact if_pos rfl
  have hl_1 : ln_1 a_1 = 40 := by rw [ha_1, hln_1]; exact if_pos rfl
  have hE_1 : EXT kd ln sz kd_1 ln_1 sz_1 := by rw [hsz_1, hkd_1, hln_1]; exact EXT.a _ _
  have hEE_1 : EXT kd ln sz kd_1 ln_1 sz_1 := (EXT.rf).tr hE_1
  have hmo_1 : ∀ b j : Int, b ≠ a_1 → m_1 b j = mem b j := fun b j q => by rw [hm_1]; exact newA_o j (by rw [← ha_1]; exact q)
  have hmn_1 : ∀ j : Int, m_1 a_1 j = 0 := fun j => by rw [hm_1, ha_1]; exact newA_s j
  have hmoA := hmo_1
  have hmnA := hmn_1
  have hEA := hE_1
  have hkA := hk_1
  have haA := ha_1
  have hszA := hsz_1
  have hEEA := hEE_1
  have hlA := hl_1
  have hkp1 := (hEA.2 p (by omega)).1.trans hkp
  refine jputF hF hn 3 0 2 0 rfl (by decide) (by decide) rfl wd_198 (by decide +kernel) rfl rfl (Or.inr (Or.inr (Or.inr (Or.inr ⟨_, rfl⟩)))) (by first | assumption | omega) (fun h => by cases h) ?_
  have hT1 := hS0.step (by rfl) (by decide +kernel) (by omega) hEA (by omega) haA hkA hlA hmoA hmnA
  have hS1 := hT1
  have hz1 : ((sz_1 : Nat) : Int) = sz + 1 := by omega
  clear hT1 hS0 hkd_1 hln_1 hm_1 hsz_1 hk_1 hl_1 hE_1 hmo_1 hmn_1 hmoA hmnA hEA hkA haA hszA hlA
  refine jblk hF [(.aload_n 0, 1), (.sipush 200, 3)] (by decide +kernel) (pc' := 16) (lo' := [(0, (2, p))]) (st' := [(0, 200), (2, p)]) rfl ?_
  refine jnewa hF (at' := .long) 1 (by decide) rfl wd_210 (by decide +kernel) (by omega) (by omega) ⟨Nat.le_of_ble_eq_true rfl, Nat.le_of_ble_eq_true rfl⟩ ?_
  obtain ⟨kd_2, hkd_2⟩ : ∃ q : Int → Nat, q = upK kd_1 ((sz_1 : Nat) : Int) (21) := ⟨_, rfl⟩
  obtain ⟨ln_2, hln_2⟩ : ∃ q : Int → Int, q = upL ln_1 ((sz_1 : Nat) : Int) 200 := ⟨_, rfl⟩
  obtain ⟨m_2, hm_2⟩ : ∃ q : Int → Int → Int, q = newA 0 (set2 m_1 p 0 a_1) ((sz_1 : Nat) : Int) := ⟨_, rfl⟩
  obtain ⟨sz_2, hsz_2⟩ : ∃ q : Nat, q = sz_1 + 1 := ⟨_, rfl⟩
  obtain ⟨a_2, ha_2⟩ : ∃ q : Int, q = ((sz_1 : Nat) : Int) := ⟨_, rfl⟩
  rw [← hkd_2, ← hln_2, ← hm_2, ← hsz_2]
  rw [← ha_2]
  have hk_2 : kd_2 a_2 = 21 := by rw [ha_2, hkd_2]; exact if_pos rfl
  have hl_2 : ln_2 a_2 = 200 := by rw [ha_2, hln_2]; exact if_pos rfl
  have hE_2 : EXT kd_1 ln_1 sz_1 kd_2 ln_2 sz_2 := by rw [hsz_2, hkd_2, hln_2]; exact EXT.a _ _
  have hEE_2 : EXT kd ln sz kd_2 ln_2 sz_2 := (hEE_1).tr hE_2
  have hmo_2 : ∀ b j : Int, b ≠ a_2 → m_2 b j = (set2 m_1 p 0 a_1) b j := fun b j q => by rw [hm_2]; exact newA_o j (by rw [← ha_2]; exact q)
  have hmn_2 : ∀ j : Int, m_2 a_2 j = 0 := fun j => by rw [hm_2, ha_2]; exact newA_s j
  have hmoA := hmo_2
  have hmnA := hmn_2
  have hEA := hE_2
  have hkA := hk_2
  have haA := ha_2
  have hszA := hsz_2
  have hEEA := hEE_2
  have hlA := hl_2
  have hkp2 := (hEA.2 p (by omega)).1.trans hkp1
  refine jputF hF hn 3 1 2 1 rfl (by decide) (by decide) rfl wd_200 (by decide +kernel) rfl rfl (Or.inr (Or.inr (Or.inr (Or.inr ⟨_, rfl⟩)))) (by first | assumption | omega) (fun h => by cases h) ?_
  have hT2 := hS1.step (by rfl) (by decide +kernel) (by omega) hEA (by omega) haA hkA hlA hmoA hmnA
  have hS2 := hT2
  have hz2 : ((sz_2 : Nat) : Int) = sz + 2 := by omega
  clear hT2 hS1 hkd_2 hln_2 hm_2 hsz_2 hk_2 hl_2 hE_2 hmo_2 hmn_2 hmoA hmnA hEA hkA haA hszA hlA hz1 hkp1 hEE_1 ha_2
  refine jblk hF [(.aload_n 0, 1), (.sipush 200, 3)] (by decide +kernel) (pc' := 25) (lo' := [(0, (2, p))]) (st' := [(0, 200), (2, p)]) rfl ?_
  refine jnewa hF (at' := .long) 1 (by decide) rfl wd_210 (by decide +kernel) (by omega) (by omega) ⟨Nat.le_of_ble_eq_true rfl, Nat.le_of_ble_eq_true rfl⟩ ?_
  obtain ⟨kd_3, hkd_3⟩ : ∃ q : Int → Nat, q = upK kd_2 ((sz_2 : Nat) : Int) (21) := ⟨_, rfl⟩
  obtain ⟨ln_3, hln_3⟩ : ∃ q : Int → Int, q = upL ln_2 ((sz_2 : Nat) : Int) 200 := ⟨_, rfl⟩
  obtain ⟨m_3, hm_3⟩ : ∃ q : Int → Int → Int, q = newA 0 (set2 m_2 p 1 a_2) ((sz_2 : Nat) : Int) := ⟨_, rfl⟩
  obtain ⟨sz_3, hsz_3⟩ : ∃ q : Nat, q = sz_2 + 1 := ⟨_, rfl⟩
  obtain ⟨a_3, ha_3⟩ : ∃ q : Int, q = ((sz_2 : Nat) : Int) := ⟨_, rfl⟩
  rw [← hkd_3, ← hln_3, ← hm_3, ← hsz_3]
  rw [← ha_3]
  have hk_3 : kd_3 a_3 = 21 := by rw [ha_3, hkd_3]; exact if_pos rfl
  have hl_3 : ln_3 a_3 = 200 := by rw [ha_3, hln_3]; exact if_pos rfl
  have hE_3 : EXT kd_2 ln_2 sz_2 kd_3 ln_3 sz_3 := by rw [hsz_3, hkd_3, hln_3]; exact EXT.a _ _
  have hEE_3 : EXT kd ln sz kd_3 ln_3 sz_3 := (hEE_2).tr hE_3
  have hmo_3 : ∀ b j : Int, b ≠ a_3 → m_3 b j = (set2 m_2 p 1 a_2) b j := fun b j q => by rw [hm_3]; exact newA_o j (by rw [← ha_3]; exact q)
  have hmn_3 : ∀ j : Int, m_3 a_3 j = 0 := fun j => by rw [hm_3, ha_3]; exact newA_s j
  have hmoA := hmo_3
  have hmnA := hmn_3
  have hEA := hE_3
  have hkA := hk_3
  have haA := ha_3
  have hszA := hsz_3
  have hEEA := hEE_3
  have hlA := hl_3
  have hkp3 := (hEA.2 p (by omega)).1.trans hkp2
  refine jputF hF hn 3 2 2 2 rfl (by decide) (by decide) rfl wd_202 (by decide +kernel) rfl rfl (Or.inr (Or.inr (Or.inr (Or.inr ⟨_, rfl⟩)))) (by first | assumption | omega) (fun h => by cases h) ?_
  have hT3 := hS2.step (by rfl) (by decide +kernel) (by omega) hEA (by omega) haA hkA hlA hmoA hmnA
  have hS3 := hT3
  have hz3 : ((sz_3 : Nat) : Int) = sz + 3 := by omega
  clear hT3 hS2 hkd_3 hln_3 hm_3 hsz_3 hk_3 hl_3 hE_3 hmo_3 hmn_3 hmoA hmnA hEA hkA haA hszA hlA hz2 hkp2 hEE_2 ha_3
  refine jwiden (k := 3) (n := 440) (Nat.le_of_ble_eq_true rfl) (Nat.le_of_ble_eq_true rfl) ?_
  refine jvret hF hr (by decide +kernel) ?_
  exact ⟨rfl, hEE_3, (by exact ⟨by omega, by rw [ha_1]; exact hS3⟩)⟩
set_option maxHeartbeats 4000000 in
set_option maxRecDepth 100000 in
theorem c_X4_init {l : Launch} {g : GP} (hG : GH g) {kd : Int → Nat} {ln : Int → Int} {mem : Int → Int → Int} {sz : Nat} (p : Int) (hkp : kd p = 6) (hp0 : 0 ≤ p) (hps : p < sz) : MT l g yX4_init cX4_init 1 none 1 4 365 [(2, p)] kd ln mem sz (pXV (fun kd' ln' mem' sz' => (sz' = sz + 4 ∧ SNJ (mem) p sz PX4_init 4 kd' ln' mem')) kd ln sz) := by
  refine MT_of hG (by decide +kernel) (Nat.le_of_ble_eq_true rfl) (fun z hF hr hn => ?_)
  refine jblk hF [(.aload_n 0, 1)] (by decide +kernel) (pc' := 1) (lo' := [(0, (2, p))]) (st' := [(2, p)]) rfl ?_
  refine jobj hF (by omega) wd_261 wd_133 wd_objcode (by decide +kernel) (by decide) ?_
  refine jblk hF [(.aload_n 0, 1)] (by decide +kernel) (pc' := 5) (lo' := [(0, (2, p))]) (st' := [(2, p)]) rfl ?_
  have hS0 := SNJ.start mem p sz PX4_init kd ln
  refine jblk hF [(.bipush 40, 2)] (by decide +kernel) (pc' := 7) (lo' := [(0, (2, p))]) (st' := [(0, 40), (2, p)]) rfl ?_
  refine jnewa hF (at' := .long) 1 (by decide) rfl wd_210 (by decide +kernel) (by omega) (by omega) ⟨Nat.le_of_ble_eq_true rfl, Nat.le_of_ble_eq_true rfl⟩ ?_
  obtain ⟨kd_1, hkd_1⟩ : ∃ q : Int → Nat, q = upK kd ((sz : Nat) : Int) (21) := ⟨_, rfl⟩
  obtain ⟨ln_1, hln_1⟩ : ∃ q : Int → Int, q = upL ln ((sz : Nat) : Int) 40 := ⟨_, rfl⟩
  obtain ⟨m_1, hm_1⟩ : ∃ q : Int → Int → Int, q = newA 0 mem ((sz : Nat) : Int) := ⟨_, rfl⟩
  obtain ⟨sz_1, hsz_1⟩ : ∃ q : Nat, q = sz + 1 := ⟨_, rfl⟩
  obtain ⟨a_1, ha_1⟩ : ∃ q : Int, q = ((sz : Nat) : Int) := ⟨_, rfl⟩
  rw [← hkd_1, ← hln_1, ← hm_1, ← hsz_1]
  rw [← ha_1]
  have hk_1 : kd_1 a_1 = 21 := by rw [ha_1, hkd_1]; exact if_pos rfl
  have hl_1 : ln_1 a_1 = 40 := by rw [ha_1, hln_1]; exact if_pos rfl
  have hE_1 : EXT kd ln sz kd_1 ln_1 sz_1 := by rw [hsz_1, hkd_1, hln_1]; exact EXT.a _ _
  have hEE_1 : EXT kd ln sz kd_1 ln_1 sz_1 := (EXT.rf).tr hE_1
  have hmo_1 : ∀ b j : Int, b ≠ a_1 → m_1 b j = mem b j := fun b j q => by rw [hm_1]; exact newA_o j (by rw [← ha_1]; exact q)
  have hmn_1 : ∀ j : Int, m_1 a_1 j = 0 := fun j => by rw [hm_1, ha_1]; exact newA_s j
  have hmoA := hmo_1
  have hmnA := hmn_1
  have hEA := hE_1
  have hkA := hk_1
  have haA := ha_1
  have hszA := hsz_1
  have hEEA := hEE_1
  have hlA := hl_1
  have hkp1 := (hEA.2 p (by omega)).1.trans hkp
  refine jputF hF hn 5 0 2 0 rfl (by decide) (by decide) rfl wd_262 (by decide +kernel) rfl rfl (Or.inr (Or.inr (Or.inr (Or.inr ⟨_, rfl⟩)))) (by first | assumption | omega) (fun h => by cases h) ?_
  have hT1 := hS0.step (by rfl) (by decide +kernel) (by omega) hEA (by omega) haA hkA hlA hmoA hmnA
  have hS1 := hT1
  have hz1 : ((sz_1 : Nat) : Int) = sz + 1 := by omega
  clear hT1 hS0 hkd_1 hln_1 hm_1 hsz_1 hk_1 hl_1 hE_1 hmo_1 hmn_1 hmoA hmnA hEA hkA haA hszA hlA
  refine jblk hF [(.aload_n 0, 1), (.sipush 280, 3)] (by decide +kernel) (pc' := 16) (lo' := [(0, (2, p))]) (st' := [(0, 280), (2, p)]) rfl ?_
  refine jnewa hF (at' := .long) 1 (by decide) rfl wd_210 (by decide +kernel) (by omega) (by omega) ⟨Nat.le_of_ble_eq_true rfl, Nat.le_of_ble_eq_true rfl⟩ ?_
  obtain ⟨kd_2, hkd_2⟩ : ∃ q : Int → Nat, q = upK kd_1 ((sz_1 : Nat) : Int) (21) := ⟨_, rfl⟩
  obtain ⟨ln_2, hln_2⟩ : ∃ q : Int → Int, q = upL ln_1 ((sz_1 : Nat) : Int) 280 := ⟨_, rfl⟩
  obtain ⟨m_2, hm_2⟩ : ∃ q : Int → Int → Int, q = newA 0 (set2 m_1 p 0 a_1) ((sz_1 : Nat) : Int) := ⟨_, rfl⟩
  obtain ⟨sz_2, hsz_2⟩ : ∃ q : Nat, q = sz_1 + 1 := ⟨_, rfl⟩
  obtain ⟨a_2, ha_2⟩ : ∃ q : Int, q = ((sz_1 : Nat) : Int) := ⟨_, rfl⟩
  rw [← hkd_2, ← hln_2, ← hm_2, ← hsz_2]
  rw [← ha_2]
  have hk_2 : kd_2 a_2 = 21 := by rw [ha_2, hkd_2]; exact if_pos rfl
  have hl_2 : ln_2 a_2 = 280 := by rw [ha_2, hln_2]; exact if_pos rfl
  have hE_2 : EXT kd_1 ln_1 sz_1 kd_2 ln_2 sz_2 := by rw [hsz_2, hkd_2, hln_2]; exact EXT.a _ _
  have hEE_2 : EXT kd ln sz kd_2 ln_2 sz_2 := (hEE_1).tr hE_2
  have hmo_2 : ∀ b j : Int, b ≠ a_2 → m_2 b j = (set2 m_1 p 0 a_1) b j := fun b j q => by rw [hm_2]; exact newA_o j (by rw [← ha_2]; exact q)
  have hmn_2 : ∀ j : Int, m_2 a_2 j = 0 := fun j => by rw [hm_2, ha_2]; exact newA_s j
  have hmoA := hmo_2
  have hmnA := hmn_2
  have hEA := hE_2
  have hkA := hk_2
  have haA := ha_2
  have hszA := hsz_2
  have hEEA := hEE_2
  have hlA := hl_2
  have hkp2 := (hEA.2 p (by omega)).1.trans hkp1
  refine jputF hF hn 5 1 2 1 rfl (by decide) (by decide) rfl wd_263 (by decide +kernel) rfl rfl (Or.inr (Or.inr (Or.inr (Or.inr ⟨_, rfl⟩)))) (by first | assumption | omega) (fun h => by cases h) ?_
  have hT2 := hS1.step (by rfl) (by decide +kernel) (by omega) hEA (by omega) haA hkA hlA hmoA hmnA
  have hS2 := hT2
  have hz2 : ((sz_2 : Nat) : Int) = sz + 2 := by omega
  clear hT2 hS1 hkd_2 hln_2 hm_2 hsz_2 hk_2 hl_2 hE_2 hmo_2 hmn_2 hmoA hmnA hEA hkA haA hszA hlA hz1 hkp1 hEE_1 ha_2
  refine jblk hF [(.aload_n 0, 1), (.bipush 40, 2)] (by decide +kernel) (pc' := 24) (lo' := [(0, (2, p))]) (st' := [(0, 40), (2, p)]) rfl ?_
  refine jnewa hF (at' := .int) 0 (by decide) rfl wd_157 (by decide +kernel) (by omega) (by omega) ⟨Nat.le_of_ble_eq_true rfl, Nat.le_of_ble_eq_true rfl⟩ ?_
  obtain ⟨kd_3, hkd_3⟩ : ∃ q : Int → Nat, q = upK kd_2 ((sz_2 : Nat) : Int) (20) := ⟨_, rfl⟩
  obtain ⟨ln_3, hln_3⟩ : ∃ q : Int → Int, q = upL ln_2 ((sz_2 : Nat) : Int) 40 := ⟨_, rfl⟩
  obtain ⟨m_3, hm_3⟩ : ∃ q : Int → Int → Int, q = newA 0 (set2 m_2 p 1 a_2) ((sz_2 : Nat) : Int) := ⟨_, rfl⟩
  obtain ⟨sz_3, hsz_3⟩ : ∃ q : Nat, q = sz_2 + 1 := ⟨_, rfl⟩
  obtain ⟨a_3, ha_3⟩ : ∃ q : Int, q = ((sz_2 : Nat) : Int) := ⟨_, rfl⟩
  rw [← hkd_3, ← hln_3, ← hm_3, ← hsz_3]
  rw [← ha_3]
  have hk_3 : kd_3 a_3 = 20 := by rw [ha_3, hkd_3]; exact if_pos rfl
  have hl_3 : ln_3 a_3 = 40 := by rw [ha_3, hln_3]; exact if_pos rfl
  have hE_3 : EXT kd_2 ln_2 sz_2 kd_3 ln_3 sz_3 := by rw [hsz_3, hkd_3, hln_3]; exact EXT.a _ _
  have hEE_3 : EXT kd ln sz kd_3 ln_3 sz_3 := (hEE_2).tr hE_3
  have hmo_3 : ∀ b j : Int, b ≠ a_3 → m_3 b j = (set2 m_2 p 1 a_2) b j := fun b j q => by rw [hm_3]; exact newA_o j (by rw [← ha_3]; exact q)
  have hmn_3 : ∀ j : Int, m_3 a_3 j = 0 := fun j => by rw [hm_3, ha_3]; exact newA_s j
  have hmoA := hmo_3
  have hmnA := hmn_3
  have hEA := hE_3
  have hkA := hk_3
  have haA := ha_3
  have hszA := hsz_3
  have hEEA := hEE_3
  have hlA := hl_3
  have hkp3 := (hEA.2 p (by omega)).1.trans hkp2
  refine jputF hF hn 5 2 2 2 rfl (by decide) (by decide) rfl wd_264 (by decide +kernel) rfl rfl (Or.inr (Or.inr (Or.inr (Or.inr ⟨_, rfl⟩)))) (by first | assumption | omega) (fun h => by cases h) ?_
  have hT3 := hS2.step (by rfl) (by decide +kernel) (by omega) hEA (by omega) haA hkA hlA hmoA hmnA
  have hS3 := hT3
  have hz3 : ((sz_3 : Nat) : Int) = sz + 3 := by omega
  clear hT3 hS2 hkd_3 hln_3 hm_3 hsz_3 hk_3 hl_3 hE_3 hmo_3 hmn_3 hmoA hmnA hEA hkA haA hszA hlA hz2 hkp2 hEE_2 ha_3
  refine jblk hF [(.aload_n 0, 1), (.iconst 5, 1)] (by decide +kernel) (pc' := 31) (lo' := [(0, (2, p))]) (st' := [(0, 5), (2, p)]) rfl ?_
  refine jnewa hF (at' := .long) 1 (by decide) rfl wd_210 (by decide +kernel) (by omega) (by omega) ⟨Nat.le_of_ble_eq_true rfl, Nat.le_of_ble_eq_true rfl⟩ ?_
  obtain ⟨kd_4, hkd_4⟩ : ∃ q : Int → Nat, q = upK kd_3 ((sz_3 : Nat) : Int) (21) := ⟨_, rfl⟩
  obtain ⟨ln_4, hln_4⟩ : ∃ q : Int → Int, q = upL ln_3 ((sz_3 : Nat) : Int) 5 := ⟨_, rfl⟩
  obtain ⟨m_4, hm_4⟩ : ∃ q : Int → Int → Int, q = newA 0 (set2 m_3 p 2 a_3) ((sz_3 : Nat) : Int) := ⟨_, rfl⟩
  obtain ⟨sz_4, hsz_4⟩ : ∃ q : Nat, q = sz_3 + 1 := ⟨_, rfl⟩
  obtain ⟨a_4, ha_4⟩ : ∃ q : Int, q = ((sz_3 : Nat) : Int) := ⟨_, rfl⟩
  rw [← hkd_4, ← hln_4, ← hm_4, ← hsz_4]
  rw [← ha_4]
  have hk_4 : kd_4 a_4 = 21 := by rw [ha_4, hkd_4]; exact if_pos rfl
  have hl_4 : ln_4 a_4 = 5 := by rw [ha_4, hln_4]; exact if_pos rfl
  have hE_4 : EXT kd_3 ln_3 sz_3 kd_4 ln_4 sz_4 := by rw [hsz_4, hkd_4, hln_4]; exact EXT.a _ _
  have hEE_4 : EXT kd ln sz kd_4 ln_4 sz_4 := (hEE_3).tr hE_4
  have hmo_4 : ∀ b j : Int, b ≠ a_4 → m_4 b j = (set2 m_3 p 2 a_3) b j := fun b j q => by rw [hm_4]; exact newA_o j (by rw [← ha_4]; exact q)
  have hmn_4 : ∀ j : Int, m_4 a_4 j = 0 := fun j => by rw [hm_4, ha_4]; exact newA_s j
  have hmoA := hmo_4
  have hmnA := hmn_4
  have hEA := hE_4
  have hkA := hk_4
  have haA := ha_4
  have hszA := hsz_4
  have hEEA := hEE_4
  have hlA := hl_4
  have hkp4 := (hEA.2 p (by omega)).1.trans hkp3
  refine jputF hF hn 5 3 2 3 rfl (by decide) (by decide) rfl wd_265 (by decide +kernel) rfl rfl (Or.inr (Or.inr (Or.inr (Or.inr ⟨_, rfl⟩)))) (by first | assumption | omega) (fun h => by cases h) ?_
  have hT4 := hS3.step (by rfl) (by decide +kernel) (by omega) hEA (by omega) haA hkA hlA hmoA hmnA
  have hS4 := hT4
  have hz4 : ((sz_4 : Nat) : Int) = sz + 4 := by omega
  clear hT4 hS3 hkd_4 hln_4 hm_4 hsz_4 hk_4 hl_4 hE_4 hmo_4 hmn_4 hmoA hmnA hEA hkA haA hszA hlA hz3 hkp3 hEE_3 ha_4
  refine jwiden (k := 4) (n := 365) (Nat.le_of_ble_eq_true rfl) (Nat.le_of_ble_eq_true rfl) ?_
  refine jvret hF hr (by decide +kernel) ?_
  exact ⟨rfl, hEE_4, (by exact ⟨by omega, by rw [ha_1]; exact hS4⟩)⟩
set_option maxHeartbeats 4000000 in
set_option maxRecDepth 100000 in
theorem c_X6_init {l : Launch} {g : GP} (hG : GH g) {kd : Int → Nat} {ln : Int → Int} {mem : Int → Int → Int} {sz : Nat} (p : Int) (hkp : kd p = 8) (hp0 : 0 ≤ p) (hps : p < sz) : MT l g yX6_init cX6_init 1 none 1 7 64 [(2, p)] kd ln mem sz (pXV (fun kd' ln' mem' sz' => (sz' = sz + 7 ∧ SNJ (mem) p sz PX6_init 7 kd' ln' mem')) kd ln sz) := by
  refine MT_of hG (by decide +kernel) (Nat.le_of_ble_eq_true rfl) (fun z hF hr hn => ?_)
  refine jblk hF [(.aload_n 0, 1)] (by decide +kernel) (pc' := 1) (lo' := [(0, (2, p))]) (st' := [(2, p)]) rfl ?_
  refine jobj hF (by omega) wd_216 wd_133 wd_objcode (by decide +kernel) (by decide) ?_
  refine jblk hF [(.aload_n 0, 1)] (by decide +kernel) (pc' := 5) (lo' := [(0, (2, p))]) (st' := [(2, p)]) rfl ?_
  have hS0 := SNJ.start mem p sz PX6_init kd ln
  refine jblk hF [(.bipush 40, 2)] (by decide +kernel) (pc' := 7) (lo' := [(0, (2, p))]) (st' := [(0, 40), (2, p)]) rfl ?_
  refine jnewa hF (at' := .long) 1 (by decide) rfl wd_210 (by decide +kernel) (by omega) (by omega) ⟨Nat.le_of_ble_eq_true rfl, Nat.le_of_ble_eq_true rfl⟩ ?_
  obtain ⟨kd_1, hkd_1⟩ : ∃ q : Int → Nat, q = upK kd ((sz : Nat) : Int) (21) := ⟨_, rfl⟩
  obtain ⟨ln_1, hln_1⟩ : ∃ q : Int → Int, q = upL ln ((sz : Nat) : Int) 40 := ⟨_, rfl⟩
  obtain ⟨m_1, hm_1⟩ : ∃ q : Int → Int → Int, q = newA 0 mem ((sz : Nat) : Int) := ⟨_, rfl⟩
  obtain ⟨sz_1, hsz_1⟩ : ∃ q : Nat, q = sz + 1 := ⟨_, rfl⟩
  obtain ⟨a_1, ha_1⟩ : ∃ q : Int, q = ((sz : Nat) : Int) := ⟨_, rfl⟩
  rw [← hkd_1, ← hln_1, ← hm_1, ← hsz_1]
  rw [← ha_1]
  have hk_1 : kd_1 a_1 = 21 := by rw [ha_1, hkd_1]; exact if_pos rfl
  have hl_1 : ln_1 a_1 = 40 := by rw [ha_1, hln_1]; exact if_pos rfl
  have hE_1 : EXT kd ln sz kd_1 ln_1 sz_1 := by rw [hsz_1, hkd_1, hln_1]; exact EXT.a _ _
  have hEE_1 : EXT kd ln sz kd_1 ln_1 sz_1 := (EXT.rf).tr hE_1
  have hmo_1 : ∀ b j : Int, b ≠ a_1 → m_1 b j = mem b j := fun b j q => by rw [hm_1]; exact newA_o j (by rw [← ha_1]; exact q)
  have hmn_1 : ∀ j : Int, m_1 a_1 j = 0 := fun j => by rw [hm_1, ha_1]; exact newA_s j
  have hmoA := hmo_1
  have hmnA := hmn_1
  have hEA := hE_1
  have hkA := hk_1
  have haA := ha_1
  have hszA := hsz_1
  have hEEA := hEE_1
  have hlA := hl_1
  have hkp1 := (hEA.2 p (by omega)).1.trans hkp
  refine jputF hF hn 7 0 2 0 rfl (by decide) (by decide) rfl wd_217 (by decide +kernel) rfl rfl (Or.inr (Or.inr (Or.inr (Or.inr ⟨_, rfl⟩)))) (by first | assumption | omega) (fun h => by cases h) ?_
  have hT1 := hS0.step (by rfl) (by decide +kernel) (by omega) hEA (by omega) haA hkA hlA hmoA hmnA
  have hS1 := hT1
  have hz1 : ((sz_1 : Nat) : Int) = sz + 1 := by omega
  clear hT1 hS0 hkd_1 hln_1 hm_1 hsz_1 hk_1 hl_1 hE_1 hmo_1 hmn_1 hmoA hmnA hEA hkA haA hszA hlA
  refine jblk hF [(.aload_n 0, 1), (.iconst 4, 1)] (by decide +kernel) (pc' := 14) (lo' := [(0, (2, p))]) (st' := [(0, 4), (2, p)]) rfl ?_
  refine jnewa hF (at' := .int) 0 (by decide) rfl wd_157 (by decide +kernel) (by omega) (by omega) ⟨Nat.le_of_ble_eq_true rfl, Nat.le_of_ble_eq_true rfl⟩ ?_
  obtain ⟨kd_2, hkd_2⟩ : ∃ q : Int → Nat, q = upK kd_1 ((sz_1 : Nat) : Int) (20) := ⟨_, rfl⟩
  obtain ⟨ln_2, hln_2⟩ : ∃ q : Int → Int, q = upL ln_1 ((sz_1 : Nat) : Int) 4 := ⟨_, rfl⟩
  obtain ⟨m_2, hm_2⟩ : ∃ q : Int → Int → Int, q = newA 0 (set2 m_1 p 0 a_1) ((sz_1 : Nat) : Int) := ⟨_, rfl⟩
  obtain ⟨sz_2, hsz_2⟩ : ∃ q : Nat, q = sz_1 + 1 := ⟨_, rfl⟩
  obtain ⟨a_2, ha_2⟩ : ∃ q : Int, q = ((sz_1 : Nat) : Int) := ⟨_, rfl⟩
  rw [← hkd_2, ← hln_2, ← hm_2, ← hsz_2]
  rw [← ha_2]
  have hk_2 : kd_2 a_2 = 20 := by rw [ha_2, hkd_2]; exact if_pos rfl
  have hl_2 : ln_2 a_2 = 4 := by rw [ha_2, hln_2]; exact if_pos rfl
  have hE_2 : EXT kd_1 ln_1 sz_1 kd_2 ln_2 sz_2 := by rw [hsz_2, hkd_2, hln_2]; exact EXT.a _ _
  have hEE_2 : EXT kd ln sz kd_2 ln_2 sz_2 := (hEE_1).tr hE_2
  have hmo_2 : ∀ b j : Int, b ≠ a_2 → m_2 b j = (set2 m_1 p 0 a_1) b j := fun b j q => by rw [hm_2]; exact newA_o j (by rw [← ha_2]; exact q)
  have hmn_2 : ∀ j : Int, m_2 a_2 j = 0 := fun j => by rw [hm_2, ha_2]; exact newA_s j
  have hmoA := hmo_2
  have hmnA := hmn_2
  have hEA := hE_2
  have hkA := hk_2
  have haA := ha_2
  have hszA := hsz_2
  have hEEA := hEE_2
  have hlA := hl_2
  have hkp2 := (hEA.2 p (by omega)).1.trans hkp1
  refine jputF hF hn 7 1 2 1 rfl (by decide) (by decide) rfl wd_218 (by decide +kernel) rfl rfl (Or.inr (Or.inr (Or.inr (Or.inr ⟨_, rfl⟩)))) (by first | assumption | omega) (fun h => by cases h) ?_
  have hT2 := hS1.step (by rfl) (by decide +kernel) (by omega) hEA (by omega) haA hkA hlA hmoA hmnA
  have hS2 := hT2
  have hz2 : ((sz_2 : Nat) : Int) = sz + 2 := by omega
  clear hT2 hS1 hkd_2 hln_2 hm_2 hsz_2 hk_2 hl_2 hE_2 hmo_2 hmn_2 hmoA hmnA hEA hkA haA hszA hlA hz1 hkp1 hEE_1 ha_2
  refine jblk hF [(.aload_n 0, 1), (.iconst 4, 1)] (by decide +kernel) (pc' := 21) (lo' := [(0, (2, p))]) (st' := [(0, 4), (2, p)]) rfl ?_
  refine jnewa hF (at' := .int) 0 (by decide) rfl wd_157 (by decide +kernel) (by omega) (by omega) ⟨Nat.le_of_ble_eq_true rfl, Nat.le_of_ble_eq_true rfl⟩ ?_
  obtain ⟨kd_3, hkd_3⟩ : ∃ q : Int → Nat, q = upK kd_2 ((sz_2 : Nat) : Int) (20) := ⟨_, rfl⟩
  obtain ⟨ln_3, hln_3⟩ : ∃ q : Int → Int, q = upL ln_2 ((sz_2 : Nat) : Int) 4 := ⟨_, rfl⟩
  obtain ⟨m_3, hm_3⟩ : ∃ q : Int → Int → Int, q = newA 0 (set2 m_2 p 1 a_2) ((sz_2 : Nat) : Int) := ⟨_, rfl⟩
  obtain ⟨sz_3, hsz_3⟩ : ∃ q : Nat, q = sz_2 + 1 := ⟨_, rfl⟩
  obtain ⟨a_3, ha_3⟩ : ∃ q : Int, q = ((sz_2 : Nat) : Int) := ⟨_, rfl⟩
  rw [← hkd_3, ← hln_3, ← hm_3, ← hsz_3]
  rw [← ha_3]
  have hk_3 : kd_3 a_3 = 20 := by rw [ha_3, hkd_3]; exact if_pos rfl
  have hl_3 : ln_3 a_3 = 4 := by rw [ha_3, hln_3]; exact if_pos rfl
  have hE_3 : EXT kd_2 ln_2 sz_2 kd_3 ln_3 sz_3 := by rw [hsz_3, hkd_3, hln_3]; exact EXT.a _ _
  have hEE_3 : EXT kd ln sz kd_3 ln_3 sz_3 := (hEE_2).tr hE_3
  have hmo_3 : ∀ b j : Int, b ≠ a_3 → m_3 b j = (set2 m_2 p 1 a_2) b j := fun b j q => by rw [hm_3]; exact newA_o j (by rw [← ha_3]; exact q)
  have hmn_3 : ∀ j : Int, m_3 a_3 j = 0 := fun j => by rw [hm_3, ha_3]; exact newA_s j
  have hmoA := hmo_3
  have hmnA := hmn_3
  have hEA := hE_3
  have hkA := hk_3
  have haA := ha_3
  have hszA := hsz_3
  have hEEA := hEE_3
  have hlA := hl_3
  have hkp3 := (hEA.2 p (by omega)).1.trans hkp2
  refine jputF hF hn 7 2 2 2 rfl (by decide) (by decide) rfl wd_219 (by decide +kernel) rfl rfl (Or.inr (Or.inr (Or.inr (Or.inr ⟨_, rfl⟩)))) (by first | assumption | omega) (fun h => by cases h) ?_
  have hT3 := hS2.step (by rfl) (by decide +kernel) (by omega) hEA (by omega) haA hkA hlA hmoA hmnA
  have hS3 := hT3
  have hz3 : ((sz_3 : Nat) : Int) = sz + 3 := by omega
  clear hT3 hS2 hkd_3 hln_3 hm_3 hsz_3 hk_3 hl_3 hE_3 hmo_3 hmn_3 hmoA hmnA hEA hkA haA hszA hlA hz2 hkp2 hEE_2 ha_3
  refine jblk hF [(.aload_n 0, 1), (.iconst 4, 1)] (by decide +kernel) (pc' := 28) (lo' := [(0, (2, p))]) (st' := [(0, 4), (2, p)]) rfl ?_
  refine jnewa hF (at' := .long) 1 (by decide) rfl wd_210 (by decide +kernel) (by omega) (by omega) ⟨Nat.le_of_ble_eq_true rfl, Nat.le_of_ble_eq_true rfl⟩ ?_
  obtain ⟨kd_4, hkd_4⟩ : ∃ q : Int → Nat, q = upK kd_3 ((sz_3 : Nat) : Int) (21) := ⟨_, rfl⟩
  obtain ⟨ln_4, hln_4⟩ : ∃ q : Int → Int, q = upL ln_3 ((sz_3 : Nat) : Int) 4 := ⟨_, rfl⟩
  obtain ⟨m_4, hm_4⟩ : ∃ q : Int → Int → Int, q = newA 0 (set2 m_3 p 2 a_3) ((sz_3 : Nat) : Int) := ⟨_, rfl⟩
  obtain ⟨sz_4, hsz_4⟩ : ∃ q : Nat, q = sz_3 + 1 := ⟨_, rfl⟩
  obtain ⟨a_4, ha_4⟩ : ∃ q : Int, q = ((sz_3 : Nat) : Int) := ⟨_, rfl⟩
  rw [← hkd_4, ← hln_4, ← hm_4, ← hsz_4]
  rw [← ha_4]
  have hk_4 : kd_4 a_4 = 21 := by rw [ha_4, hkd_4]; exact if_pos rfl
  have hl_4 : ln_4 a_4 = 4 := by rw [ha_4, hln_4]; exact if_pos rfl
  have hE_4 : EXT kd_3 ln_3 sz_3 kd_4 ln_4 sz_4 := by rw [hsz_4, hkd_4, hln_4]; exact EXT.a _ _
  have hEE_4 : EXT kd ln sz kd_4 ln_4 sz_4 := (hEE_3).tr hE_4
  have hmo_4 : ∀ b j : Int, b ≠ a_4 → m_4 b j = (set2 m_3 p 2 a_3) b j := fun b j q => by rw [hm_4]; exact newA_o j (by rw [← ha_4]; exact q)
  have hmn_4 : ∀ j : Int, m_4 a_4 j = 0 := fun j => by rw [hm_4, ha_4]; exact newA_s j
  have hmoA := hmo_4
  have hmnA := hmn_4
  have hEA := hE_4
  have hkA := hk_4
  have haA := ha_4
  have hszA := hsz_4
  have hEEA := hEE_4
  have hlA := hl_4
  have hkp4 := (hEA.2 p (by omega)).1.trans hkp3
  refine jputF hF hn 7 3 2 3 rfl (by decide) (by decide) rfl wd_220 (by decide +kernel) rfl rfl (Or.inr (Or.inr (Or.inr (Or.inr ⟨_, rfl⟩)))) (by first | assumption | omega) (fun h => by cases h) ?_
  have hT4 := hS3.step (by rfl) (by decide +kernel) (by omega) hEA (by omega) haA hkA hlA hmoA hmnA
  have hS4 := hT4
  have hz4 : ((sz_4 : Nat) : Int) = sz + 4 := by omega
  clear hT4 hS3 hkd_4 hln_4 hm_4 hsz_4 hk_4 hl_4 hE_4 hmo_4 hmn_4 hmoA hmnA hEA hkA haA hszA hlA hz3 hkp3 hEE_3 ha_4
  refine jblk hF [(.aload_n 0, 1), (.iconst 4, 1)] (by decide +kernel) (pc' := 35) (lo' := [(0, (2, p))]) (st' := [(0, 4), (2, p)]) rfl ?_
  refine jnewa hF (at' := .int) 0 (by decide) rfl wd_157 (by decide +kernel) (by omega) (by omega) ⟨Nat.le_of_ble_eq_true rfl, Nat.le_of_ble_eq_true rfl⟩ ?_
  obtain ⟨kd_5, hkd_5⟩ : ∃ q : Int → Nat, q = upK kd_4 ((sz_4 : Nat) : Int) (20) := ⟨_, rfl⟩
  obtain ⟨ln_5, hln_5⟩ : ∃ q : Int → Int, q = upL ln_4 ((sz_4 : Nat) : Int) 4 := ⟨_, rfl⟩
  obtain ⟨m_5, hm_5⟩ : ∃ q : Int → Int → Int, q = newA 0 (set2 m_4 p 3 a_4) ((sz_4 : Nat) : Int) := ⟨_, rfl⟩
  obtain ⟨sz_5, hsz_5⟩ : ∃ q : Nat, q = sz_4 + 1 := ⟨_, rfl⟩
  obtain ⟨a_5, ha_5⟩ : ∃ q : Int, q = ((sz_4 : Nat) : Int) := ⟨_, rfl⟩
  rw [← hkd_5, ← hln_5, ← hm_5, ← hsz_5]
  rw [← ha_5]
  have hk_5 : kd_5 a_5 = 20 := by rw [ha_5, hkd_5]; exact if_pos rfl
  have hl_5 : ln_5 a_5 = 4 := by rw [ha_5, hln_5]; exact if_pos rfl
  have hE_5 : EXT kd_4 ln_4 sz_4 kd_5 ln_5 sz_5 := by rw [hsz_5, hkd_5, hln_5]; exact EXT.a _ _
  have hEE_5 : EXT kd ln sz kd_5 ln_5 sz_5 := (hEE_4).tr hE_5
  have hmo_5 : ∀ b j : Int, b ≠ a_5 → m_5 b j = (set2 m_4 p 3 a_4) b j := fun b j q => by rw [hm_5]; exact newA_o j (by rw [← ha_5]; exact q)
  have hmn_5 : ∀ j : Int, m_5 a_5 j = 0 := fun j => by rw [hm_5, ha_5]; exact newA_s j
  have hmoA := hmo_5
  have hmnA := hmn_5
  have hEA := hE_5
  have hkA := hk_5
  have haA := ha_5
  have hszA := hsz_5
  have hEEA := hEE_5
  have hlA := hl_5
  have hkp5 := (hEA.2 p (by omega)).1.trans hkp4
  refine jputF hF hn 7 4 2 4 rfl (by decide) (by decide) rfl wd_221 (by decide +kernel) rfl rfl (Or.inr (Or.inr (Or.inr (Or.inr ⟨_, rfl⟩)))) (by first | assumption | omega) (fun h => by cases h) ?_
  have hT5 := hS4.step (by rfl) (by decide +kernel) (by omega) hEA (by omega) haA hkA hlA hmoA hmnA
  have hS5 := hT5
  have hz5 : ((sz_5 : Nat) : Int) = sz + 5 := by omega
  clear hT5 hS4 hkd_5 hln_5 hm_5 hsz_5 hk_5 hl_5 hE_5 hmo_5 hmn_5 hmoA hmnA hEA hkA haA hszA hlA hz4 hkp4 hEE_4 ha_5
  refine jblk hF [(.aload_n 0, 1), (.iconst 4, 1)] (by decide +kernel) (pc' := 42) (lo' := [(0, (2, p))]) (st' := [(0, 4), (2, p)]) rfl ?_
  refine jnewa hF (at' := .int) 0 (by decide) rfl wd_157 (by decide +kernel) (by omega) (by omega) ⟨Nat.le_of_ble_eq_true rfl, Nat.le_of_ble_eq_true rfl⟩ ?_
  obtain ⟨kd_6, hkd_6⟩ : ∃ q : Int → Nat, q = upK kd_5 ((sz_5 : Nat) : Int) (20) := ⟨_, rfl⟩
  obtain ⟨ln_6, hln_6⟩ : ∃ q : Int → Int, q = upL ln_5 ((sz_5 : Nat) : Int) 4 := ⟨_, rfl⟩
  obtain ⟨m_6, hm_6⟩ : ∃ q : Int → Int → Int, q = newA 0 (set2 m_5 p 4 a_5) ((sz_5 : Nat) : Int) := ⟨_, rfl⟩
  obtain ⟨sz_6, hsz_6⟩ : ∃ q : Nat, q = sz_5 + 1 := ⟨_, rfl⟩
  obtain ⟨a_6, ha_6⟩ : ∃ q : Int, q = ((sz_5 : Nat) : Int) := ⟨_, rfl⟩
  rw [← hkd_6, ← hln_6, ← hm_6, ← hsz_6]
  rw [← ha_6]
  have hk_6 : kd_6 a_6 = 20 := by rw [ha_6, hkd_6]; exact if_pos rfl
  have hl_6 : ln_6 a_6 = 4 := by rw [ha_6, hln_6]; exact if_pos rfl
  have hE_6 : EXT kd_5 ln_5 sz_5 kd_6 ln_6 sz_6 := by rw [hsz_6, hkd_6, hln_6]; exact EXT.a _ _
  have hEE_6 : EXT kd ln sz kd_6 ln_6 sz_6 := (hEE_5).tr hE_6
  have hmo_6 : ∀ b j : Int, b ≠ a_6 → m_6 b j = (set2 m_5 p 4 a_5) b j := fun b j q => by rw [hm_6]; exact newA_o j (by rw [← ha_6]; exact q)
  have hmn_6 : ∀ j : Int, m_6 a_6 j = 0 := fun j => by rw [hm_6, ha_6]; exact newA_s j
  have hmoA := hmo_6
  have hmnA := hmn_6
  have hEA := hE_6
  have hkA := hk_6
  have haA := ha_6
  have hszA := hsz_6
  have hEEA := hEE_6
  have hlA := hl_6
  have hkp6 := (hEA.2 p (by omega)).1.trans hkp5
  refine jputF hF hn 7 5 2 5 rfl (by decide) (by decide) rfl wd_223 (by decide +kernel) rfl rfl (Or.inr (Or.inr (Or.inr (Or.inr ⟨_, rfl⟩)))) (by first | assumption | omega) (fun h => by cases h) ?_
  have hT6 := hS5.step (by rfl) (by decide +kernel) (by omega) hEA (by omega) haA hkA hlA hmoA hmnA
  have hS6 := hT6
  have hz6 : ((sz_6 : Nat) : Int) = sz + 6 := by omega
  clear hT6 hS5 hkd_6 hln_6 hm_6 hsz_6 hk_6 hl_6 hE_6 hmo_6 hmn_6 hmoA hmnA hEA hkA haA hszA hlA hz5 hkp5 hEE_5 ha_6
  refine jblk hF [(.aload_n 0, 1), (.iconst 4, 1)] (by decide +kernel) (pc' := 49) (lo' := [(0, (2, p))]) (st' := [(0, 4), (2, p)]) rfl ?_
  refine jnewa hF (at' := .long) 1 (by decide) rfl wd_210 (by decide +kernel) (by omega) (by omega) ⟨Nat.le_of_ble_eq_true rfl, Nat.le_of_ble_eq_true rfl⟩ ?_
  obtain ⟨kd_7, hkd_7⟩ : ∃ q : Int → Nat, q = upK kd_6 ((sz_6 : Nat) : Int) (21) := ⟨_, rfl⟩
  obtain ⟨ln_7, hln_7⟩ : ∃ q : Int → Int, q = upL ln_6 ((sz_6 : Nat) : Int) 4 := ⟨_, rfl⟩
  obtain ⟨m_7, hm_7⟩ : ∃ q : Int → Int → Int, q = newA 0 (set2 m_6 p 5 a_6) ((sz_6 : Nat) : Int) := ⟨_, rfl⟩
  obtain ⟨sz_7, hsz_7⟩ : ∃ q : Nat, q = sz_6 + 1 := ⟨_, rfl⟩
  obtain ⟨a_7, ha_7⟩ : ∃ q : Int, q = ((sz_6 : Nat) : Int) := ⟨_, rfl⟩
  rw [← hkd_7, ← hln_7, ← hm_7, ← hsz_7]
  rw [← ha_7]
  have hk_7 : kd_7 a_7 = 21 := by rw [ha_7, hkd_7]; exact if_pos rfl
  have hl_7 : ln_7 a_7 = 4 := by rw [ha_7, hln_7]; exact if_pos rfl
  have hE_7 : EXT kd_6 ln_6 sz_6 kd_7 ln_7 sz_7 := by rw [hsz_7, hkd_7, hln_7]; exact EXT.a _ _
  have hEE_7 : EXT kd ln sz kd_7 ln_7 sz_7 := (hEE_6).tr hE_7
  have hmo_7 : ∀ b j : Int, b ≠ a_7 → m_7 b j = (set2 m_6 p 5 a_6) b j := fun b j q => by rw [hm_7]; exact newA_o j (by rw [← ha_7]; exact q)
  have hmn_7 : ∀ j : Int, m_7 a_7 j = 0 := fun j => by rw [hm_7, ha_7]; exact newA_s j
  have hmoA := hmo_7
  have hmnA := hmn_7
  have hEA := hE_7
  have hkA := hk_7
  have haA := ha_7
  have hszA := hsz_7
  have hEEA := hEE_7
  have hlA := hl_7
  have hkp7 := (hEA.2 p (by omega)).1.trans hkp6
  refine jputF hF hn 7 6 2 6 rfl (by decide) (by decide) rfl wd_225 (by decide +kernel) rfl rfl (Or.inr (Or.inr (Or.inr (Or.inr ⟨_, rfl⟩)))) (by first | assumption | omega) (fun h => by cases h) ?_
  have hT7 := hS6.step (by rfl) (by decide +kernel) (by omega) hEA (by omega) haA hkA hlA hmoA hmnA
  have hS7 := hT7
  have hz7 : ((sz_7 : Nat) : Int) = sz + 7 := by omega
  clear hT7 hS6 hkd_7 hln_7 hm_7 hsz_7 hk_7 hl_7 hE_7 hmo_7 hmn_7 hmoA hmnA hEA hkA haA hszA hlA hz6 hkp6 hEE_6 ha_7
  refine jwiden (k := 7) (n := 64) (Nat.le_of_ble_eq_true rfl) (Nat.le_of_ble_eq_true rfl) ?_
  refine jvret hF hr (by decide +kernel) ?_
  exact ⟨rfl, hEE_7, (by exact ⟨by omega, by rw [ha_1]; exact hS7⟩)⟩
set_option maxHeartbeats 4000000 in
set_option maxRecDepth 100000 in
theorem c_X12_init {l : Launch} {g : GP} (hG : GH g) {kd : Int → Nat} {ln : Int → Int} {mem : Int → Int → Int} {sz : Nat} (p : Int) (hkp : kd p = 14) (hp0 : 0 ≤ p) (hps : p < sz) : MT l g yX12_init cX12_init 1 none 1 64 14491 [(2, p)] kd ln mem sz (pXV (fun kd' ln' mem' sz' => (sz' = sz + 64 ∧ SNJ (set2 (set2 mem p 2 (-1)) p 89 10) p sz PX12_init 64 kd' ln' mem')) kd ln sz) := by
  refine MT_of hG (by decide +kernel) (Nat.le_of_ble_eq_true rfl) (fun z hF hr hn => ?_)
  refine jblk hF [(.aload_n 0, 1)] (by decide +kernel) (pc' := 1) (lo' := [(0, (2, p))]) (st' := [(2, p)]) rfl ?_
  refine jobj hF (by omega) wd_1462 wd_133 wd_objcode (by decide +kernel) (by decide) ?_
  refine jblk hF [(.aload_n 0, 1)] (by decide +kernel) (pc' := 5) (lo' := [(0, (2, p))]) (st' := [(2, p)]) rfl ?_
  have hS0 := SNJ.start mem p sz PX12_init kd ln
  refine jblk hF [(.iconst (-1), 1)] (by decide +kernel) (pc' := 6) (lo' := [(0, (2, p))]) (st' := [(0, (-1)), (2, p)]) rfl ?_
  refine jput hF 13 2 0 2 rfl (by decide) (by decide) rfl wd_1465 (by decide +kernel) rfl (Or.inl rfl) (by first | assumption | omega) (fun h => by cases h) ?_
  have hS0 := hS0.put (by omega) 2 (-1) (by decide +kernel)
  refine jblk hF [(.aload_n 0, 1), (.bipush 10, 2)] (by decide +kernel) (pc' := 12) (lo' := [(0, (2, p))]) (st' := [(0, 10), (2, p)]) rfl ?_
  refine jnewa hF (at' := .int) 0 (by decide) rfl wd_157 (by decide +kernel) (by omega) (by omega) ⟨Nat.le_of_ble_eq_true rfl, Nat.le_of_ble_eq_true rfl⟩ ?_
  obtain ⟨kd_1, hkd_1⟩ : ∃ q : Int → Nat, q = upK kd ((sz : Nat) : Int) (20) := ⟨_, rfl⟩
  obtain ⟨ln_1, hln_1⟩ : ∃ q : Int → Int, q = upL ln ((sz : Nat) : Int) 10 := ⟨_, rfl⟩
  obtain ⟨m_1, hm_1⟩ : ∃ q : Int → Int → Int, q = newA 0 (set2 mem p 2 (-1)) ((sz : Nat) : Int) := ⟨_, rfl⟩
  obtain ⟨sz_1, hsz_1⟩ : ∃ q : Nat, q = sz + 1 := ⟨_, rfl⟩
  obtain ⟨a_1, ha_1⟩ : ∃ q : Int, q = ((sz : Nat) : Int) := ⟨_, rfl⟩
  rw [← hkd_1, ← hln_1, ← hm_1, ← hsz_1]
  rw [← ha_1]
  have hk_1 : kd_1 a_1 = 20 := by rw [ha_1, hkd_1]; exact if_pos rfl
  have hl_1 : ln_1 a_1 = 10 := by rw [ha_1, hln_1]; exact if_pos rfl
  have hE_1 : EXT kd ln sz kd_1 ln_1 sz_1 := by rw [hsz_1, hkd_1, hln_1]; exact EXT.a _ _
  have hEE_1 : EXT kd ln sz kd_1 ln_1 sz_1 := (EXT.rf).tr hE_1
  have hmo_1 : ∀ b j : Int, b ≠ a_1 → m_1 b j = (set2 mem p 2 (-1)) b j := fun b j q => by rw [hm_1]; exact newA_o j (by rw [← ha_1]; exact q)
  have hmn_1 : ∀ j : Int, m_1 a_1 j = 0 := fun j => by rw [hm_1, ha_1]; exact newA_s j
  have hmoA := hmo_1
  have hmnA := hmn_1
  have hEA := hE_1
  have hkA := hk_1
  have haA := ha_1
  have hszA := hsz_1
  have hEEA := hEE_1
  have hlA := hl_1
  have hkp1 := (hEA.2 p (by omega)).1.trans hkp
  refine jputF hF hn 13 3 2 3 rfl (by decide) (by decide) rfl wd_1466 (by decide +kernel) rfl rfl (Or.inr (Or.inr (Or.inr (Or.inr ⟨_, rfl⟩)))) (by first | assumption | omega) (fun h => by cases h) ?_
  have hT1 := hS0.step (by rfl) (by decide +kernel) (by omega) hEA (by omega) haA hkA hlA hmoA hmnA
  have hS1 := hT1
  have hz1 : ((sz_1 : Nat) : Int) = sz + 1 := by omega
  clear hT1 hS0 hkd_1 hln_1 hm_1 hsz_1 hk_1 hl_1 hE_1 hmo_1 hmn_1 hmoA hmnA hEA hkA haA hszA hlA
  refine jblk hF [(.aload_n 0, 1), (.bipush 10, 2)] (by decide +kernel) (pc' := 20) (lo' := [(0, (2, p))]) (st' := [(0, 10), (2, p)]) rfl ?_
  refine jnewa hF (at' := .int) 0 (by decide) rfl wd_157 (by decide +kernel) (by omega) (by omega) ⟨Nat.le_of_ble_eq_true rfl, Nat.le_of_ble_eq_true rfl⟩ ?_
  obtain ⟨kd_2, hkd_2⟩ : ∃ q : Int → Nat, q = upK kd_1 ((sz_1 : Nat) : Int) (20) := ⟨_, rfl⟩
  obtain ⟨ln_2, hln_2⟩ : ∃ q : Int → Int, q = upL ln_1 ((sz_1 : Nat) : Int) 10 := ⟨_, rfl⟩
  obtain ⟨m_2, hm_2⟩ : ∃ q : Int → Int → Int, q = newA 0 (set2 m_1 p 3 a_1) ((sz_1 : Nat) : Int) := ⟨_, rfl⟩
  obtain ⟨sz_2, hsz_2⟩ : ∃ q : Nat, q = sz_1 + 1 := ⟨_, rfl⟩
  obtain ⟨a_2, ha_2⟩ : ∃ q : Int, q = ((sz_1 : Nat) : Int) := ⟨_, rfl⟩
  rw [← hkd_2, ← hln_2, ← hm_2, ← hsz_2]
  rw [← ha_2]
  have hk_2 : kd_2 a_2 = 20 := by rw [ha_2, hkd_2]; exact if_pos rfl
  have hl_2 : ln_2 a_2 = 10 := by rw [ha_2, hln_2]; exact if_pos rfl
  have hE_2 : EXT kd_1 ln_1 sz_1 kd_2 ln_2 sz_2 := by rw [hsz_2, hkd_2, hln_2]; exact EXT.a _ _
  have hEE_2 : EXT kd ln sz kd_2 ln_2 sz_2 := (hEE_1).tr hE_2
  have hmo_2 : ∀ b j : Int, b ≠ a_2 → m_2 b j = (set2 m_1 p 3 a_1) b j := fun b j q => by rw [hm_2]; exact newA_o j (by rw [← ha_2]; exact q)
  have hmn_2 : ∀ j : Int, m_2 a_2 j = 0 := fun j => by rw [hm_2, ha_2]; exact newA_s j
  have hmoA := hmo_2
  have hmnA := hmn_2
  have hEA := hE_2
  have hkA := hk_2
  have haA := ha_2
  have hszA := hsz_2
  have hEEA := hEE_2
  have hlA := hl_2
  have hkp2 := (hEA.2 p (by omega)).1.trans hkp1
  refine jputF hF hn 13 4 2 4 rfl (by decide) (by decide) rfl wd_1467 (by decide +kernel) rfl rfl (Or.inr (Or.inr (Or.inr (Or.inr ⟨_, rfl⟩)))) (by first | assumption | omega) (fun h => by cases h) ?_
  have hT2 := hS1.step (by rfl) (by decide +kernel) (by omega) hEA (by omega) haA hkA hlA hmoA hmnA
  have hS2 := hT2
  have hz2 : ((sz_2 : Nat) : Int) = sz + 2 := by omega
  clear hT2 hS1 hkd_2 hln_2 hm_2 hsz_2 hk_2 hl_2 hE_2 hmo_2 hmn_2 hmoA hmnA hEA hkA haA hszA hlA hz1 hkp1 hEE_1 ha_2
  refine jblk hF [(.aload_n 0, 1), (.bipush 10, 2)] (by decide +kernel) (pc' := 28) (lo' := [(0, (2, p))]) (st' := [(0, 10), (2, p)]) rfl ?_
  refine jnewa hF (at' := .int) 0 (by decide) rfl wd_157 (by decide +kernel) (by omega) (by omega) ⟨Nat.le_of_ble_eq_true rfl, Nat.le_of_ble_eq_true rfl⟩ ?_
  obtain ⟨kd_3, hkd_3⟩ : ∃ q : Int → Nat, q = upK kd_2 ((sz_2 : Nat) : Int) (20) := ⟨_, rfl⟩
  obtain ⟨ln_3, hln_3⟩ : ∃ q : Int → Int, q = upL ln_2 ((sz_2 : Nat) : Int) 10 := ⟨_, rfl⟩
  obtain ⟨m_3, hm_3⟩ : ∃ q : Int → Int → Int, q = newA 0 (set2 m_2 p 4 a_2) ((sz_2 : Nat) : Int) := ⟨_, rfl⟩
  obtain ⟨sz_3, hsz_3⟩ : ∃ q : Nat, q = sz_2 + 1 := ⟨_, rfl⟩
  obtain ⟨a_3, ha_3⟩ : ∃ q : Int, q = ((sz_2 : Nat) : Int) := ⟨_, rfl⟩
  rw [← hkd_3, ← hln_3, ← hm_3, ← hsz_3]
  rw [← ha_3]
  have hk_3 : kd_3 a_3 = 20 := by rw [ha_3, hkd_3]; exact if_pos rfl
  have hl_3 : ln_3 a_3 = 10 := by rw [ha_3, hln_3]; exact if_pos rfl
  have hE_3 : EXT kd_2 ln_2 sz_2 kd_3 ln_3 sz_3 := by rw [hsz_3, hkd_3, hln_3]; exact EXT.a _ _
  have hEE_3 : EXT kd ln sz kd_3 ln_3 sz_3 := (hEE_2).tr hE_3
  have hmo_3 : ∀ b j : Int, b ≠ a_3 → m_3 b j = (set2 m_2 p 4 a_2) b j := fun b j q => by rw [hm_3]; exact newA_o j (by rw [← ha_3]; exact q)
  have hmn_3 : ∀ j : Int, m_3 a_3 j = 0 := fun j => by rw [hm_3, ha_3]; exact newA_s j
  have hmoA := hmo_3
  have hmnA := hmn_3
  have hEA := hE_3
  have hkA := hk_3
  have haA := ha_3
  have hszA := hsz_3
  have hEEA := hEE_3
  have hlA := hl_3
  have hkp3 := (hEA.2 p (by omega)).1.trans hkp2
  refine jputF hF hn 13 5 2 5 rfl (by decide) (by decide) rfl wd_1468 (by decide +kernel) rfl rfl (Or.inr (Or.inr (Or.inr (Or.inr ⟨_, rfl⟩)))) (by first | assumption | omega) (fun h => by cases h) ?_
  have hT3 := hS2.step (by rfl) (by decide +kernel) (by omega) hEA (by omega) haA hkA hlA hmoA hmnA
  have hS3 := hT3
  have hz3 : ((sz_3 : Nat) : Int) = sz + 3 := by omega
  clear hT3 hS2 hkd_3 hln_3 hm_3 hsz_3 hk_3 hl_3 hE_3 hmo_3 hmn_3 hmoA hmnA hEA hkA haA hszA hlA hz2 hkp2 hEE_2 ha_3
  refine jblk hF [(.aload_n 0, 1), (.sipush 160, 3)] (by decide +kernel) (pc' := 37) (lo' := [(0, (2, p))]) (st' := [(0, 160), (2, p)]) rfl ?_
  refine jnewa hF (at' := .int) 0 (by decide) rfl wd_157 (by decide +kernel) (by omega) (by omega) ⟨Nat.le_of_ble_eq_true rfl, Nat.le_of_ble_eq_true rfl⟩ ?_
  obtain ⟨kd_4, hkd_4⟩ : ∃ q : Int → Nat, q = upK kd_3 ((sz_3 : Nat) : Int) (20) := ⟨_, rfl⟩
  obtain ⟨ln_4, hln_4⟩ : ∃ q : Int → Int, q = upL ln_3 ((sz_3 : Nat) : Int) 160 := ⟨_, rfl⟩
  obtain ⟨m_4, hm_4⟩ : ∃ q : Int → Int → Int, q = newA 0 (set2 m_3 p 5 a_3) ((sz_3 : Nat) : Int) := ⟨_, rfl⟩
  obtain ⟨sz_4, hsz_4⟩ : ∃ q : Nat, q = sz_3 + 1 := ⟨_, rfl⟩
  obtain ⟨a_4, ha_4⟩ : ∃ q : Int, q = ((sz_3 : Nat) : Int) := ⟨_, rfl⟩
  rw [← hkd_4, ← hln_4, ← hm_4, ← hsz_4]
  rw [← ha_4]
  have hk_4 : kd_4 a_4 = 20 := by rw [ha_4, hkd_4]; exact if_pos rfl
  have hl_4 : ln_4 a_4 = 160 := by rw [ha_4, hln_4]; exact if_pos rfl
  have hE_4 : EXT kd_3 ln_3 sz_3 kd_4 ln_4 sz_4 := by rw [hsz_4, hkd_4, hln_4]; exact EXT.a _ _
  have hEE_4 : EXT kd ln sz kd_4 ln_4 sz_4 := (hEE_3).tr hE_4
  have hmo_4 : ∀ b j : Int, b ≠ a_4 → m_4 b j = (set2 m_3 p 5 a_3) b j := fun b j q => by rw [hm_4]; exact newA_o j (by rw [← ha_4]; exact q)
  have hmn_4 : ∀ j : Int, m_4 a_4 j = 0 := fun j => by rw [hm_4, ha_4]; exact newA_s j
  have hmoA := hmo_4
  have hmnA := hmn_4
  have hEA := hE_4
  have hkA := hk_4
  have haA := ha_4
  have hszA := hsz_4
  have hEEA := hEE_4
  have hlA := hl_4
  have hkp4 := (hEA.2 p (by omega)).1.trans hkp3
  refine jputF hF hn 13 7 2 7 rfl (by decide) (by decide) rfl wd_1470 (by decide +kernel) rfl rfl (Or.inr (Or.inr (Or.inr (Or.inr ⟨_, rfl⟩)))) (by first | assumption | omega) (fun h => by cases h) ?_
  have hT4 := hS3.step (by rfl) (by decide +kernel) (by omega) hEA (by omega) haA hkA hlA hmoA hmnA
  have hS4 := hT4
  have hz4 : ((sz_4 : Nat) : Int) = sz + 4 := by omega
  clear hT4 hS3 hkd_4 hln_4 hm_4 hsz_4 hk_4 hl_4 hE_4 hmo_4 hmn_4 hmoA hmnA hEA hkA haA hszA hlA hz3 hkp3 hEE_3 ha_4
  refine jblk hF [(.aload_n 0, 1), (.sipush 620, 3)] (by decide +kernel) (pc' := 46) (lo' := [(0, (2, p))]) (st' := [(0, 620), (2, p)]) rfl ?_
  refine jnewa hF (at' := .int) 0 (by decide) rfl wd_157 (by decide +kernel) (by omega) (by omega) ⟨Nat.le_of_ble_eq_true rfl, Nat.le_of_ble_eq_true rfl⟩ ?_
  obtain ⟨kd_5, hkd_5⟩ : ∃ q : Int → Nat, q = upK kd_4 ((sz_4 : Nat) : Int) (20) := ⟨_, rfl⟩
  obtain ⟨ln_5, hln_5⟩ : ∃ q : Int → Int, q = upL ln_4 ((sz_4 : Nat) : Int) 620 := ⟨_, rfl⟩
  obtain ⟨m_5, hm_5⟩ : ∃ q : Int → Int → Int, q = newA 0 (set2 m_4 p 7 a_4) ((sz_4 : Nat) : Int) := ⟨_, rfl⟩
  obtain ⟨sz_5, hsz_5⟩ : ∃ q : Nat, q = sz_4 + 1 := ⟨_, rfl⟩
  obtain ⟨a_5, ha_5⟩ : ∃ q : Int, q = ((sz_4 : Nat) : Int) := ⟨_, rfl⟩
  rw [← hkd_5, ← hln_5, ← hm_5, ← hsz_5]
  rw [← ha_5]
  have hk_5 : kd_5 a_5 = 20 := by rw [ha_5, hkd_5]; exact if_pos rfl
  have hl_5 : ln_5 a_5 = 620 := by rw [ha_5, hln_5]; exact if_pos rfl
  have hE_5 : EXT kd_4 ln_4 sz_4 kd_5 ln_5 sz_5 := by rw [hsz_5, hkd_5, hln_5]; exact EXT.a _ _
  have hEE_5 : EXT kd ln sz kd_5 ln_5 sz_5 := (hEE_4).tr hE_5
  have hmo_5 : ∀ b j : Int, b ≠ a_5 → m_5 b j = (set2 m_4 p 7 a_4) b j := fun b j q => by rw [hm_5]; exact newA_o j (by rw [← ha_5]; exact q)
  have hmn_5 : ∀ j : Int, m_5 a_5 j = 0 := fun j => by rw [hm_5, ha_5]; exact newA_s j
  have hmoA := hmo_5
  have hmnA := hmn_5
  have hEA := hE_5
  have hkA := hk_5
  have haA := ha_5
  have hszA := hsz_5
  have hEEA := hEE_5
  have hlA := hl_5
  have hkp5 := (hEA.2 p (by omega)).1.trans hkp4
  refine jputF hF hn 13 8 2 8 rfl (by decide) (by decide) rfl wd_1471 (by decide +kernel) rfl rfl (Or.inr (Or.inr (Or.inr (Or.inr ⟨_, rfl⟩)))) (by first | assumption | omega) (fun h => by cases h) ?_
  have hT5 := hS4.step (by rfl) (by decide +kernel) (by omega) hEA (by omega) haA hkA hlA hmoA hmnA
  have hS5 := hT5
  have hz5 : ((sz_5 : Nat) : Int) = sz + 5 := by omega
  clear hT5 hS4 hkd_5 hln_5 hm_5 hsz_5 hk_5 hl_5 hE_5 hmo_5 hmn_5 hmoA hmnA hEA hkA haA hszA hlA hz4 hkp4 hEE_4 ha_5
  refine jblk hF [(.aload_n 0, 1), (.sipush 7440, 3)] (by decide +kernel) (pc' := 55) (lo' := [(0, (2, p))]) (st' := [(0, 7440), (2, p)]) rfl ?_
  refine jnewa hF (at' := .int) 0 (by decide) rfl wd_157 (by decide +kernel) (by omega) (by omega) ⟨Nat.le_of_ble_eq_true rfl, Nat.le_of_ble_eq_true rfl⟩ ?_
  obtain ⟨kd_6, hkd_6⟩ : ∃ q : Int → Nat, q = upK kd_5 ((sz_5 : Nat) : Int) (20) := ⟨_, rfl⟩
  obtain ⟨ln_6, hln_6⟩ : ∃ q : Int → Int, q = upL ln_5 ((sz_5 : Nat) : Int) 7440 := ⟨_, rfl⟩
  obtain ⟨m_6, hm_6⟩ : ∃ q : Int → Int → Int, q = newA 0 (set2 m_5 p 8 a_5) ((sz_5 : Nat) : Int) := ⟨_, rfl⟩
  obtain ⟨sz_6, hsz_6⟩ : ∃ q : Nat, q = sz_5 + 1 := ⟨_, rfl⟩
  obtain ⟨a_6, ha_6⟩ : ∃ q : Int, q = ((sz_5 : Nat) : Int) := ⟨_, rfl⟩
  rw [← hkd_6, ← hln_6, ← hm_6, ← hsz_6]
  rw [← ha_6]
  have hk_6 : kd_6 a_6 = 20 := by rw [ha_6, hkd_6]; exact if_pos rfl
  have hl_6 : ln_6 a_6 = 7440 := by rw [ha_6, hln_6]; exact if_pos rfl
  have hE_6 : EXT kd_5 ln_5 sz_5 kd_6 ln_6 sz_6 := by rw [hsz_6, hkd_6, hln_6]; exact EXT.a _ _
  have hEE_6 : EXT kd ln sz kd_6 ln_6 sz_6 := (hEE_5).tr hE_6
  have hmo_6 : ∀ b j : Int, b ≠ a_6 → m_6 b j = (set2 m_5 p 8 a_5) b j := fun b j q => by rw [hm_6]; exact newA_o j (by rw [← ha_6]; exact q)
  have hmn_6 : ∀ j : Int, m_6 a_6 j = 0 := fun j => by rw [hm_6, ha_6]; exact newA_s j
  have hmoA := hmo_6
  have hmnA := hmn_6
  have hEA := hE_6
  have hkA := hk_6
  have haA := ha_6
  have hszA := hsz_6
  have hEEA := hEE_6
  have hlA := hl_6
  have hkp6 := (hEA.2 p (by omega)).1.trans hkp5
  refine jputF hF hn 13 9 2 9 rfl (by decide) (by decide) rfl wd_1472 (by decide +kernel) rfl rfl (Or.inr (Or.inr (Or.inr (Or.inr ⟨_, rfl⟩)))) (by first | assumption | omega) (fun h => by cases h) ?_
  have hT6 := hS5.step (by rfl) (by decide +kernel) (by omega) hEA (by omega) haA hkA hlA hmoA hmnA
  have hS6 := hT6
  have hz6 : ((sz_6 : Nat) : Int) = sz + 6 := by omega
  clear hT6 hS5 hkd_6 hln_6 hm_6 hsz_6 hk_6 hl_6 hE_6 hmo_6 hmn_6 hmoA hmnA hEA hkA haA hszA hlA hz5 hkp5 hEE_5 ha_6
  refine jblk hF [(.aload_n 0, 1), (.bipush 12, 2)] (by decide +kernel) (pc' := 63) (lo' := [(0, (2, p))]) (st' := [(0, 12), (2, p)]) rfl ?_
  refine jnewa hF (at' := .int) 0 (by decide) rfl wd_157 (by decide +kernel) (by omega) (by omega) ⟨Nat.le_of_ble_eq_true rfl, Nat.le_of_ble_eq_true rfl⟩ ?_
  obtain ⟨kd_7, hkd_7⟩ : ∃ q : Int → Nat, q = upK kd_6 ((sz_6 : Nat) : Int) (20) := ⟨_, rfl⟩
  obtain ⟨ln_7, hln_7⟩ : ∃ q : Int → Int, q = upL ln_6 ((sz_6 : Nat) : Int) 12 := ⟨_, rfl⟩
  obtain ⟨m_7, hm_7⟩ : ∃ q : Int → Int → Int, q = newA 0 (set2 m_6 p 9 a_6) ((sz_6 : Nat) : Int) := ⟨_, rfl⟩
  obtain ⟨sz_7, hsz_7⟩ : ∃ q : Nat, q = sz_6 + 1 := ⟨_, rfl⟩
  obtain ⟨a_7, ha_7⟩ : ∃ q : Int, q = ((sz_6 : Nat) : Int) := ⟨_, rfl⟩
  rw [← hkd_7, ← hln_7, ← hm_7, ← hsz_7]
  rw [← ha_7]
  have hk_7 : kd_7 a_7 = 20 := by rw [ha_7, hkd_7]; exact if_pos rfl
  have hl_7 : ln_7 a_7 = 12 := by rw [ha_7, hln_7]; exact if_pos rfl
  have hE_7 : EXT kd_6 ln_6 sz_6 kd_7 ln_7 sz_7 := by rw [hsz_7, hkd_7, hln_7]; exact EXT.a _ _
  have hEE_7 : EXT kd ln sz kd_7 ln_7 sz_7 := (hEE_6).tr hE_7
  have hmo_7 : ∀ b j : Int, b ≠ a_7 → m_7 b j = (set2 m_6 p 9 a_6) b j := fun b j q => by rw [hm_7]; exact newA_o j (by rw [← ha_7]; exact q)
  have hmn_7 : ∀ j : Int, m_7 a_7 j = 0 := fun j => by rw [hm_7, ha_7]; exact newA_s j
  have hmoA := hmo_7
  have hmnA := hmn_7
  have hEA := hE_7
  have hkA := hk_7
  have haA := ha_7
  have hszA := hsz_7
  have hEEA := hEE_7
  have hlA := hl_7
  have hkp7 := (hEA.2 p (by omega)).1.trans hkp6
  refine jputF hF hn 13 10 2 10 rfl (by decide) (by decide) rfl wd_1473 (by decide +kernel) rfl rfl (Or.inr (Or.inr (Or.inr (Or.inr ⟨_, rfl⟩)))) (by first | assumption | omega) (fun h => by cases h) ?_
  have hT7 := hS6.step (by rfl) (by decide +kernel) (by omega) hEA (by omega) haA hkA hlA hmoA hmnA
  have hS7 := hT7
  have hz7 : ((sz_7 : Nat) : Int) = sz + 7 := by omega
  clear hT7 hS6 hkd_7 hln_7 hm_7 hsz_7 hk_7 hl_7 hE_7 hmo_7 hmn_7 hmoA hmnA hEA hkA haA hszA hlA hz6 hkp6 hEE_6 ha_7
  refine jblk hF [(.aload_n 0, 1), (.sipush 128, 3)] (by decide +kernel) (pc' := 72) (lo' := [(0, (2, p))]) (st' := [(0, 128), (2, p)]) rfl ?_
  refine jnewa hF (at' := .int) 0 (by decide) rfl wd_157 (by decide +kernel) (by omega) (by omega) ⟨Nat.le_of_ble_eq_true rfl, Nat.le_of_ble_eq_true rfl⟩ ?_
  obtain ⟨kd_8, hkd_8⟩ : ∃ q : Int → Nat, q = upK kd_7 ((sz_7 : Nat) : Int) (20) := ⟨_, rfl⟩
  obtain ⟨ln_8, hln_8⟩ : ∃ q : Int → Int, q = upL ln_7 ((sz_7 : Nat) : Int) 128 := ⟨_, rfl⟩
  obtain ⟨m_8, hm_8⟩ : ∃ q : Int → Int → Int, q = newA 0 (set2 m_7 p 10 a_7) ((sz_7 : Nat) : Int) := ⟨_, rfl⟩
  obtain ⟨sz_8, hsz_8⟩ : ∃ q : Nat, q = sz_7 + 1 := ⟨_, rfl⟩
  obtain ⟨a_8, ha_8⟩ : ∃ q : Int, q = ((sz_7 : Nat) : Int) := ⟨_, rfl⟩
  rw [← hkd_8, ← hln_8, ← hm_8, ← hsz_8]
  rw [← ha_8]
  have hk_8 : kd_8 a_8 = 20 := by rw [ha_8, hkd_8]; exact if_pos rfl
  have hl_8 : ln_8 a_8 = 128 := by rw [ha_8, hln_8]; exact if_pos rfl
  have hE_8 : EXT kd_7 ln_7 sz_7 kd_8 ln_8 sz_8 := by rw [hsz_8, hkd_8, hln_8]; exact EXT.a _ _
  have hEE_8 : EXT kd ln sz kd_8 ln_8 sz_8 := (hEE_7).tr hE_8
  have hmo_8 : ∀ b j : Int, b ≠ a_8 → m_8 b j = (set2 m_7 p 10 a_7) b j := fun b j q => by rw [hm_8]; exact newA_o j (by rw [← ha_8]; exact q)
  have hmn_8 : ∀ j : Int, m_8 a_8 j = 0 := fun j => by rw [hm_8, ha_8]; exact newA_s j
  have hmoA := hmo_8
  have hmnA := hmn_8
  have hEA := hE_8
  have hkA := hk_8
  have haA := ha_8
  have hszA := hsz_8
  have hEEA := hEE_8
  have hlA := hl_8
  have hkp8 := (hEA.2 p (by omega)).1.trans hkp7
  refine jputF hF hn 13 17 2 17 rfl (by decide) (by decide) rfl wd_1480 (by decide +kernel) rfl rfl (Or.inr (Or.inr (Or.inr (Or.inr ⟨_, rfl⟩)))) (by first | assumption | omega) (fun h => by cases h) ?_
  have hT8 := hS7.step (by rfl) (by decide +kernel) (by omega) hEA (by omega) haA hkA hlA hmoA hmnA
  have hS8 := hT8
  have hz8 : ((sz_8 : Nat) : Int) = sz + 8 := by omega
  clear hT8 hS7 hkd_8 hln_8 hm_8 hsz_8 hk_8 hl_8 hE_8 hmo_8 hmn_8 hmoA hmnA hEA hkA haA hszA hlA hz7 hkp7 hEE_7 ha_8
  refine jblk hF [(.aload_n 0, 1), (.sipush 200, 3)] (by decide +kernel) (pc' := 81) (lo' := [(0, (2, p))]) (st' := [(0, 200), (2, p)]) rfl ?_
  refine jnewa hF (at' := .int) 0 (by decide) rfl wd_157 (by decide +kernel) (by omega) (by omega) ⟨Nat.le_of_ble_eq_true rfl, Nat.le_of_ble_eq_true rfl⟩ ?_
  obtain ⟨kd_9, hkd_9⟩ : ∃ q : Int → Nat, q = upK kd_8 ((sz_8 : Nat) : Int) (20) := ⟨_, rfl⟩
  obtain ⟨ln_9, hln_9⟩ : ∃ q : Int → Int, q = upL ln_8 ((sz_8 : Nat) : Int) 200 := ⟨_, rfl⟩
  obtain ⟨m_9, hm_9⟩ : ∃ q : Int → Int → Int, q = newA 0 (set2 m_8 p 17 a_8) ((sz_8 : Nat) : Int) := ⟨_, rfl⟩
  obtain ⟨sz_9, hsz_9⟩ : ∃ q : Nat, q = sz_8 + 1 := ⟨_, rfl⟩
  obtain ⟨a_9, ha_9⟩ : ∃ q : Int, q = ((sz_8 : Nat) : Int) := ⟨_, rfl⟩
  rw [← hkd_9, ← hln_9, ← hm_9, ← hsz_9]
  rw [← ha_9]
  have hk_9 : kd_9 a_9 = 20 := by rw [ha_9, hkd_9]; exact if_pos rfl
  have hl_9 : ln_9 a_9 = 200 := by rw [ha_9, hln_9]; exact if_pos rfl
  have hE_9 : EXT kd_8 ln_8 sz_8 kd_9 ln_9 sz_9 := by rw [hsz_9, hkd_9, hln_9]; exact EXT.a _ _
  have hEE_9 : EXT kd ln sz kd_9 ln_9 sz_9 := (hEE_8).tr hE_9
  have hmo_9 : ∀ b j : Int, b ≠ a_9 → m_9 b j = (set2 m_8 p 17 a_8) b j := fun b j q => by rw [hm_9]; exact newA_o j (by rw [← ha_9]; exact q)
  have hmn_9 : ∀ j : Int, m_9 a_9 j = 0 := fun j => by rw [hm_9, ha_9]; exact newA_s j
  have hmoA := hmo_9
  have hmnA := hmn_9
  have hEA := hE_9
  have hkA := hk_9
  have haA := ha_9
  have hszA := hsz_9
  have hEEA := hEE_9
  have hlA := hl_9
  have hkp9 := (hEA.2 p (by omega)).1.trans hkp8
  refine jputF hF hn 13 18 2 18 rfl (by decide) (by decide) rfl wd_1481 (by decide +kernel) rfl rfl (Or.inr (Or.inr (Or.inr (Or.inr ⟨_, rfl⟩)))) (by first | assumption | omega) (fun h => by cases h) ?_
  have hT9 := hS8.step (by rfl) (by decide +kernel) (by omega) hEA (by omega) haA hkA hlA hmoA hmnA
  have hS9 := hT9
  have hz9 : ((sz_9 : Nat) : Int) = sz + 9 := by omega
  clear hT9 hS8 hkd_9 hln_9 hm_9 hsz_9 hk_9 hl_9 hE_9 hmo_9 hmn_9 hmoA hmnA hEA hkA haA hszA hlA hz8 hkp8 hEE_8 ha_9
  refine jblk hF [(.aload_n 0, 1), (.bipush 12, 2)] (by decide +kernel) (pc' := 89) (lo' := [(0, (2, p))]) (st' := [(0, 12), (2, p)]) rfl ?_
  refine jnewa hF (at' := .int) 0 (by decide) rfl wd_157 (by decide +kernel) (by omega) (by omega) ⟨Nat.le_of_ble_eq_true rfl, Nat.le_of_ble_eq_true rfl⟩ ?_
  obtain ⟨kd_10, hkd_10⟩ : ∃ q : Int → Nat, q = upK kd_9 ((sz_9 : Nat) : Int) (20) := ⟨_, rfl⟩
  obtain ⟨ln_10, hln_10⟩ : ∃ q : Int → Int, q = upL ln_9 ((sz_9 : Nat) : Int) 12 := ⟨_, rfl⟩
  obtain ⟨m_10, hm_10⟩ : ∃ q : Int → Int → Int, q = newA 0 (set2 m_9 p 18 a_9) ((sz_9 : Nat) : Int) := ⟨_, rfl⟩
  obtain ⟨sz_10, hsz_10⟩ : ∃ q : Nat, q = sz_9 + 1 := ⟨_, rfl⟩
  obtain ⟨a_10, ha_10⟩ : ∃ q : Int, q = ((sz_9 : Nat) : Int) := ⟨_, rfl⟩
  rw [← hkd_10, ← hln_10, ← hm_10, ← hsz_10]
  rw [← ha_10]
  have hk_10 : kd_10 a_10 = 20 := by rw [ha_10, hkd_10]; exact if_pos rfl
  have hl_10 : ln_10 a_10 = 12 := by rw [ha_10, hln_10]; exact if_pos rfl
  have hE_10 : EXT kd_9 ln_9 sz_9 kd_10 ln_10 sz_10 := by rw [hsz_10, hkd_10, hln_10]; exact EXT.a _ _
  have hEE_10 : EXT kd ln sz kd_10 ln_10 sz_10 := (hEE_9).tr hE_10
  have hmo_10 : ∀ b j : Int, b ≠ a_10 → m_10 b j = (set2 m_9 p 18 a_9) b j := fun b j q => by rw [hm_10]; exact newA_o j (by rw [← ha_10]; exact q)
  have hmn_10 : ∀ j : Int, m_10 a_10 j = 0 := fun j => by rw [hm_10, ha_10]; exact newA_s j
  have hmoA := hmo_10
  have hmnA := hmn_10
  have hEA := hE_10
  have hkA := hk_10
  have haA := ha_10
  have hszA := hsz_10
  have hEEA := hEE_10
  have hlA := hl_10
  have hkp10 := (hEA.2 p (by omega)).1.trans hkp9
  refine jputF hF hn 13 20 2 20 rfl (by decide) (by decide) rfl wd_1483 (by decide +kernel) rfl rfl (Or.inr (Or.inr (Or.inr (Or.inr ⟨_, rfl⟩)))) (by first | assumption | omega) (fun h => by cases h) ?_
  have hT10 := hS9.step (by rfl) (by decide +kernel) (by omega) hEA (by omega) haA hkA hlA hmoA hmnA
  have hS10 := hT10
  have hz10 : ((sz_10 : Nat) : Int) = sz + 10 := by omega
  clear hT10 hS9 hkd_10 hln_10 hm_10 hsz_10 hk_10 hl_10 hE_10 hmo_10 hmn_10 hmoA hmnA hEA hkA haA hszA hlA hz9 hkp9 hEE_9 ha_10
  refine jblk hF [(.aload_n 0, 1), (.bipush 12, 2)] (by decide +kernel) (pc' := 97) (lo' := [(0, (2, p))]) (st' := [(0, 12), (2, p)]) rfl ?_
  refine jnewa hF (at' := .int) 0 (by decide) rfl wd_157 (by decide +kernel) (by omega) (by omega) ⟨Nat.le_of_ble_eq_true rfl, Nat.le_of_ble_eq_true rfl⟩ ?_
  obtain ⟨kd_11, hkd_11⟩ : ∃ q : Int → Nat, q = upK kd_10 ((sz_10 : Nat) : Int) (20) := ⟨_, rfl⟩
  obtain ⟨ln_11, hln_11⟩ : ∃ q : Int → Int, q = upL ln_10 ((sz_10 : Nat) : Int) 12 := ⟨_, rfl⟩
  obtain ⟨m_11, hm_11⟩ : ∃ q : Int → Int → Int, q = newA 0 (set2 m_10 p 20 a_10) ((sz_10 : Nat) : Int) := ⟨_, rfl⟩
  obtain ⟨sz_11, hsz_11⟩ : ∃ q : Nat, q = sz_10 + 1 := ⟨_, rfl⟩
  obtain ⟨a_11, ha_11⟩ : ∃ q : Int, q = ((sz_10 : Nat) : Int) := ⟨_, rfl⟩
  rw [← hkd_11, ← hln_11, ← hm_11, ← hsz_11]
  rw [← ha_11]
  have hk_11 : kd_11 a_11 = 20 := by rw [ha_11, hkd_11]; exact if_pos rfl
  have hl_11 : ln_11 a_11 = 12 := by rw [ha_11, hln_11]; exact if_pos rfl
  have hE_11 : EXT kd_10 ln_10 sz_10 kd_11 ln_11 sz_11 := by rw [hsz_11, hkd_11, hln_11]; exact EXT.a _ _
  have hEE_11 : EXT kd ln sz kd_11 ln_11 sz_11 := (hEE_10).tr hE_11
  have hmo_11 : ∀ b j : Int, b ≠ a_11 → m_11 b j = (set2 m_10 p 20 a_10) b j := fun b j q => by rw [hm_11]; exact newA_o j (by rw [← ha_11]; exact q)
  have hmn_11 : ∀ j : Int, m_11 a_11 j = 0 := fun j => by rw [hm_11, ha_11]; exact newA_s j
  have hmoA := hmo_11
  have hmnA := hmn_11
  have hEA := hE_11
  have hkA := hk_11
  have haA := ha_11
  have hszA := hsz_11
  have hEEA := hEE_11
  have hlA := hl_11
  have hkp11 := (hEA.2 p (by omega)).1.trans hkp10
  refine jputF hF hn 13 21 2 21 rfl (by decide) (by decide) rfl wd_1484 (by decide +kernel) rfl rfl (Or.inr (Or.inr (Or.inr (Or.inr ⟨_, rfl⟩)))) (by first | assumption | omega) (fun h => by cases h) ?_
  have hT11 := hS10.step (by rfl) (by decide +kernel) (by omega) hEA (by omega) haA hkA hlA hmoA hmnA
  have hS11 := hT11
  have hz11 : ((sz_11 : Nat) : Int) = sz + 11 := by omega
  clear hT11 hS10 hkd_11 hln_11 hm_11 hsz_11 hk_11 hl_11 hE_11 hmo_11 hmn_11 hmoA hmnA hEA hkA haA hszA hlA hz10 hkp10 hEE_10 ha_11
  refine jblk hF [(.aload_n 0, 1), (.bipush 12, 2)] (by decide +kernel) (pc' := 105) (lo' := [(0, (2, p))]) (st' := [(0, 12), (2, p)]) rfl ?_
  refine jnewa hF (at' := .int) 0 (by decide) rfl wd_157 (by decide +kernel) (by omega) (by omega) ⟨Nat.le_of_ble_eq_true rfl, Nat.le_of_ble_eq_true rfl⟩ ?_
  obtain ⟨kd_12, hkd_12⟩ : ∃ q : Int → Nat, q = upK kd_11 ((sz_11 : Nat) : Int) (20) := ⟨_, rfl⟩
  obtain ⟨ln_12, hln_12⟩ : ∃ q : Int → Int, q = upL ln_11 ((sz_11 : Nat) : Int) 12 := ⟨_, rfl⟩
  obtain ⟨m_12, hm_12⟩ : ∃ q : Int → Int → Int, q = newA 0 (set2 m_11 p 21 a_11) ((sz_11 : Nat) : Int) := ⟨_, rfl⟩
  obtain ⟨sz_12, hsz_12⟩ : ∃ q : Nat, q = sz_11 + 1 := ⟨_, rfl⟩
  obtain ⟨a_12, ha_12⟩ : ∃ q : Int, q = ((sz_11 : Nat) : Int) := ⟨_, rfl⟩
  rw [← hkd_12, ← hln_12, ← hm_12, ← hsz_12]
  rw [← ha_12]
  have hk_12 : kd_12 a_12 = 20 := by rw [ha_12, hkd_12]; exact if_pos rfl
  have hl_12 : ln_12 a_12 = 12 := by rw [ha_12, hln_12]; exact if_pos rfl
  have hE_12 : EXT kd_11 ln_11 sz_11 kd_12 ln_12 sz_12 := by rw [hsz_12, hkd_12, hln_12]; exact EXT.a _ _
  have hEE_12 : EXT kd ln sz kd_12 ln_12 sz_12 := (hEE_11).tr hE_12
  have hmo_12 : ∀ b j : Int, b ≠ a_12 → m_12 b j = (set2 m_11 p 21 a_11) b j := fun b j q => by rw [hm_12]; exact newA_o j (by rw [← ha_12]; exact q)
  have hmn_12 : ∀ j : Int, m_12 a_12 j = 0 := fun j => by rw [hm_12, ha_12]; exact newA_s j
  have hmoA := hmo_12
  have hmnA := hmn_12
  have hEA := hE_12
  have hkA := hk_12
  have haA := ha_12
  have hszA := hsz_12
  have hEEA := hEE_12
  have hlA := hl_12
  have hkp12 := (hEA.2 p (by omega)).1.trans hkp11
  refine jputF hF hn 13 22 2 22 rfl (by decide) (by decide) rfl wd_1485 (by decide +kernel) rfl rfl (Or.inr (Or.inr (Or.inr (Or.inr ⟨_, rfl⟩)))) (by first | assumption | omega) (fun h => by cases h) ?_
  have hT12 := hS11.step (by rfl) (by decide +kernel) (by omega) hEA (by omega) haA hkA hlA hmoA hmnA
  have hS12 := hT12
  have hz12 : ((sz_12 : Nat) : Int) = sz + 12 := by omega
  clear hT12 hS11 hkd_12 hln_12 hm_12 hsz_12 hk_12 hl_12 hE_12 hmo_12 hmn_12 hmoA hmnA hEA hkA haA hszA hlA hz11 hkp11 hEE_11 ha_12
  refine jblk hF [(.aload_n 0, 1), (.bipush 12, 2)] (by decide +kernel) (pc' := 113) (lo' := [(0, (2, p))]) (st' := [(0, 12), (2, p)]) rfl ?_
  refine jnewa hF (at' := .int) 0 (by decide) rfl wd_157 (by decide +kernel) (by omega) (by omega) ⟨Nat.le_of_ble_eq_true rfl, Nat.le_of_ble_eq_true rfl⟩ ?_
  obtain ⟨kd_13, hkd_13⟩ : ∃ q : Int → Nat, q = upK kd_12 ((sz_12 : Nat) : Int) (20) := ⟨_, rfl⟩
  obtain ⟨ln_13, hln_13⟩ : ∃ q : Int → Int, q = upL ln_12 ((sz_12 : Nat) : Int) 12 := ⟨_, rfl⟩
  obtain ⟨m_13, hm_13⟩ : ∃ q : Int → Int → Int, q = newA 0 (set2 m_12 p 22 a_12) ((sz_12 : Nat) : Int) := ⟨_, rfl⟩
  obtain ⟨sz_13, hsz_13⟩ : ∃ q : Nat, q = sz_12 + 1 := ⟨_, rfl⟩
  obtain ⟨a_13, ha_13⟩ : ∃ q : Int, q = ((sz_12 : Nat) : Int) := ⟨_, rfl⟩
  rw [← hkd_13, ← hln_13, ← hm_13, ← hsz_13]
  rw [← ha_13]
  have hk_13 : kd_13 a_13 = 20 := by rw [ha_13, hkd_13]; exact if_pos rfl
  have hl_13 : ln_13 a_13 = 12 := by rw [ha_13, hln_13]; exact if_pos rfl
  have hE_13 : EXT kd_12 ln_12 sz_12 kd_13 ln_13 sz_13 := by rw [hsz_13, hkd_13, hln_13]; exact EXT.a _ _
  have hEE_13 : EXT kd ln sz kd_13 ln_13 sz_13 := (hEE_12).tr hE_13
  have hmo_13 : ∀ b j : Int, b ≠ a_13 → m_13 b j = (set2 m_12 p 22 a_12) b j := fun b j q => by rw [hm_13]; exact newA_o j (by rw [← ha_13]; exact q)
  have hmn_13 : ∀ j : Int, m_13 a_13 j = 0 := fun j => by rw [hm_13, ha_13]; exact newA_s j
  have hmoA := hmo_13
  have hmnA := hmn_13
  have hEA := hE_13
  have hkA := hk_13
  have haA := ha_13
  have hszA := hsz_13
  have hEEA := hEE_13
  have hlA := hl_13
  have hkp13 := (hEA.2 p (by omega)).1.trans hkp12
  refine jputF hF hn 13 23 2 23 rfl (by decide) (by decide) rfl wd_1486 (by decide +kernel) rfl rfl (Or.inr (Or.inr (Or.inr (Or.inr ⟨_, rfl⟩)))) (by first | assumption | omega) (fun h => by cases h) ?_
  have hT13 := hS12.step (by rfl) (by decide +kernel) (by omega) hEA (by omega) haA hkA hlA hmoA hmnA
  have hS13 := hT13
  have hz13 : ((sz_13 : Nat) : Int) = sz + 13 := by omega
  clear hT13 hS12 hkd_13 hln_13 hm_13 hsz_13 hk_13 hl_13 hE_13 hmo_13 hmn_13 hmoA hmnA hEA hkA haA hszA hlA hz12 hkp12 hEE_12 ha_13
  refine jblk hF [(.aload_n 0, 1), (.bipush 12, 2)] (by decide +kernel) (pc' := 121) (lo' := [(0, (2, p))]) (st' := [(0, 12), (2, p)]) rfl ?_
  refine jnewa hF (at' := .int) 0 (by decide) rfl wd_157 (by decide +kernel) (by omega) (by omega) ⟨Nat.le_of_ble_eq_true rfl, Nat.le_of_ble_eq_true rfl⟩ ?_
  obtain ⟨kd_14, hkd_14⟩ : ∃ q : Int → Nat, q = upK kd_13 ((sz_13 : Nat) : Int) (20) := ⟨_, rfl⟩
  obtain ⟨ln_14, hln_14⟩ : ∃ q : Int → Int, q = upL ln_13 ((sz_13 : Nat) : Int) 12 := ⟨_, rfl⟩
  obtain ⟨m_14, hm_14⟩ : ∃ q : Int → Int → Int, q = newA 0 (set2 m_13 p 23 a_13) ((sz_13 : Nat) : Int) := ⟨_, rfl⟩
  obtain ⟨sz_14, hsz_14⟩ : ∃ q : Nat, q = sz_13 + 1 := ⟨_, rfl⟩
  obtain ⟨a_14, ha_14⟩ : ∃ q : Int, q = ((sz_13 : Nat) : Int) := ⟨_, rfl⟩
  rw [← hkd_14, ← hln_14, ← hm_14, ← hsz_14]
  rw [← ha_14]
  have hk_14 : kd_14 a_14 = 20 := by rw [ha_14, hkd_14]; exact if_pos rfl
  have hl_14 : ln_14 a_14 = 12 := by rw [ha_14, hln_14]; exact if_pos rfl
  have hE_14 : EXT kd_13 ln_13 sz_13 kd_14 ln_14 sz_14 := by rw [hsz_14, hkd_14, hln_14]; exact EXT.a _ _
  have hEE_14 : EXT kd ln sz kd_14 ln_14 sz_14 := (hEE_13).tr hE_14
  have hmo_14 : ∀ b j : Int, b ≠ a_14 → m_14 b j = (set2 m_13 p 23 a_13) b j := fun b j q => by rw [hm_14]; exact newA_o j (by rw [← ha_14]; exact q)
  have hmn_14 : ∀ j : Int, m_14 a_14 j = 0 := fun j => by rw [hm_14, ha_14]; exact newA_s j
  have hmoA := hmo_14
  have hmnA := hmn_14
  have hEA := hE_14
  have hkA := hk_14
  have haA := ha_14
  have hszA := hsz_14
  have hEEA := hEE_14
  have hlA := hl_14
  have hkp14 := (hEA.2 p (by omega)).1.trans hkp13
  refine jputF hF hn 13 24 2 24 rfl (by decide) (by decide) rfl wd_1487 (by decide +kernel) rfl rfl (Or.inr (Or.inr (Or.inr (Or.inr ⟨_, rfl⟩)))) (by first | assumption | omega) (fun h => by cases h) ?_
  have hT14 := hS13.step (by rfl) (by decide +kernel) (by omega) hEA (by omega) haA hkA hlA hmoA hmnA
  have hS14 := hT14
  have hz14 : ((sz_14 : Nat) : Int) = sz + 14 := by omega
  clear hT14 hS13 hkd_14 hln_14 hm_14 hsz_14 hk_14 hl_14 hE_14 hmo_14 hmn_14 hmoA hmnA hEA hkA haA hszA hlA hz13 hkp13 hEE_13 ha_14
  refine jblk hF [(.aload_n 0, 1), (.bipush 12, 2)] (by decide +kernel) (pc' := 129) (lo' := [(0, (2, p))]) (st' := [(0, 12), (2, p)]) rfl ?_
  refine jnewa hF (at' := .int) 0 (by decide) rfl wd_157 (by decide +kernel) (by omega) (by omega) ⟨Nat.le_of_ble_eq_true rfl, Nat.le_of_ble_eq_true rfl⟩ ?_
  obtain ⟨kd_15, hkd_15⟩ : ∃ q : Int → Nat, q = upK kd_14 ((sz_14 : Nat) : Int) (20) := ⟨_, rfl⟩
  obtain ⟨ln_15, hln_15⟩ : ∃ q : Int → Int, q = upL ln_14 ((sz_14 : Nat) : Int) 12 := ⟨_, rfl⟩
  obtain ⟨m_15, hm_15⟩ : ∃ q : Int → Int → Int, q = newA 0 (set2 m_14 p 24 a_14) ((sz_14 : Nat) : Int) := ⟨_, rfl⟩
  obtain ⟨sz_15, hsz_15⟩ : ∃ q : Nat, q = sz_14 + 1 := ⟨_, rfl⟩
  obtain ⟨a_15, ha_15⟩ : ∃ q : Int, q = ((sz_14 : Nat) : Int) := ⟨_, rfl⟩
  rw [← hkd_15, ← hln_15, ← hm_15, ← hsz_15]
  rw [← ha_15]
  have hk_15 : kd_15 a_15 = 20 := by rw [ha_15, hkd_15]; exact if_pos rfl
  have hl_15 : ln_15 a_15 = 12 := by rw [ha_15, hln_15]; exact if_pos rfl
  have hE_15 : EXT kd_14 ln_14 sz_14 kd_15 ln_15 sz_15 := by rw [hsz_15, hkd_15, hln_15]; exact EXT.a _ _
  have hEE_15 : EXT kd ln sz kd_15 ln_15 sz_15 := (hEE_14).tr hE_15
  have hmo_15 : ∀ b j : Int, b ≠ a_15 → m_15 b j = (set2 m_14 p 24 a_14) b j := fun b j q => by rw [hm_15]; exact newA_o j (by rw [← ha_15]; exact q)
  have hmn_15 : ∀ j : Int, m_15 a_15 j = 0 := fun j => by rw [hm_15, ha_15]; exact newA_s j
  have hmoA := hmo_15
  have hmnA := hmn_15
  have hEA := hE_15
  have hkA := hk_15
  have haA := ha_15
  have hszA := hsz_15
  have hEEA := hEE_15
  have hlA := hl_15
  have hkp15 := (hEA.2 p (by omega)).1.trans hkp14
  refine jputF hF hn 13 25 2 25 rfl (by decide) (by decide) rfl wd_1488 (by decide +kernel) rfl rfl (Or.inr (Or.inr (Or.inr (Or.inr ⟨_, rfl⟩)))) (by first | assumption | omega) (fun h => by cases h) ?_
  have hT15 := hS14.step (by rfl) (by decide +kernel) (by omega) hEA (by omega) haA hkA hlA hmoA hmnA
  have hS15 := hT15
  have hz15 : ((sz_15 : Nat) : Int) = sz + 15 := by omega
  clear hT15 hS14 hkd_15 hln_15 hm_15 hsz_15 hk_15 hl_15 hE_15 hmo_15 hmn_15 hmoA hmnA hEA hkA haA hszA hlA hz14 hkp14 hEE_14 ha_15
  refine jblk hF [(.aload_n 0, 1), (.bipush 12, 2)] (by decide +kernel) (pc' := 137) (lo' := [(0, (2, p))]) (st' := [(0, 12), (2, p)]) rfl ?_
  refine jnewa hF (at' := .int) 0 (by decide) rfl wd_157 (by decide +kernel) (by omega) (by omega) ⟨Nat.le_of_ble_eq_true rfl, Nat.le_of_ble_eq_true rfl⟩ ?_
  obtain ⟨kd_16, hkd_16⟩ : ∃ q : Int → Nat, q = upK kd_15 ((sz_15 : Nat) : Int) (20) := ⟨_, rfl⟩
  obtain ⟨ln_16, hln_16⟩ : ∃ q : Int → Int, q = upL ln_15 ((sz_15 : Nat) : Int) 12 := ⟨_, rfl⟩
  obtain ⟨m_16, hm_16⟩ : ∃ q : Int → Int → Int, q = newA 0 (set2 m_15 p 25 a_15) ((sz_15 : Nat) : Int) := ⟨_, rfl⟩
  obtain ⟨sz_16, hsz_16⟩ : ∃ q : Nat, q = sz_15 + 1 := ⟨_, rfl⟩
  obtain ⟨a_16, ha_16⟩ : ∃ q : Int, q = ((sz_15 : Nat) : Int) := ⟨_, rfl⟩
  rw [← hkd_16, ← hln_16, ← hm_16, ← hsz_16]
  rw [← ha_16]
  have hk_16 : kd_16 a_16 = 20 := by rw [ha_16, hkd_16]; exact if_pos rfl
  have hl_16 : ln_16 a_16 = 12 := by rw [ha_16, hln_16]; exact if_pos rfl
  have hE_16 : EXT kd_15 ln_15 sz_15 kd_16 ln_16 sz_16 := by rw [hsz_16, hkd_16, hln_16]; exact EXT.a _ _
  have hEE_16 : EXT kd ln sz kd_16 ln_16 sz_16 := (hEE_15).tr hE_16
  have hmo_16 : ∀ b j : Int, b ≠ a_16 → m_16 b j = (set2 m_15 p 25 a_15) b j := fun b j q => by rw [hm_16]; exact newA_o j (by rw [← ha_16]; exact q)
  have hmn_16 : ∀ j : Int, m_16 a_16 j = 0 := fun j => by rw [hm_16, ha_16]; exact newA_s j
  have hmoA := hmo_16
  have hmnA := hmn_16
  have hEA := hE_16
  have hkA := hk_16
  have haA := ha_16
  have hszA := hsz_16
  have hEEA := hEE_16
  have hlA := hl_16
  have hkp16 := (hEA.2 p (by omega)).1.trans hkp15
  refine jputF hF hn 13 26 2 26 rfl (by decide) (by decide) rfl wd_1489 (by decide +kernel) rfl rfl (Or.inr (Or.inr (Or.inr (Or.inr ⟨_, rfl⟩)))) (by first | assumption | omega) (fun h => by cases h) ?_
  have hT16 := hS15.step (by rfl) (by decide +kernel) (by omega) hEA (by omega) haA hkA hlA hmoA hmnA
  have hS16 := hT16
  have hz16 : ((sz_16 : Nat) : Int) = sz + 16 := by omega
  clear hT16 hS15 hkd_16 hln_16 hm_16 hsz_16 hk_16 hl_16 hE_16 hmo_16 hmn_16 hmoA hmnA hEA hkA haA hszA hlA hz15 hkp15 hEE_15 ha_16
  refine jblk hF [(.aload_n 0, 1), (.bipush 12, 2)] (by decide +kernel) (pc' := 145) (lo' := [(0, (2, p))]) (st' := [(0, 12), (2, p)]) rfl ?_
  refine jnewa hF (at' := .int) 0 (by decide) rfl wd_157 (by decide +kernel) (by omega) (by omega) ⟨Nat.le_of_ble_eq_true rfl, Nat.le_of_ble_eq_true rfl⟩ ?_
  obtain ⟨kd_17, hkd_17⟩ : ∃ q : Int → Nat, q = upK kd_16 ((sz_16 : Nat) : Int) (20) := ⟨_, rfl⟩
  obtain ⟨ln_17, hln_17⟩ : ∃ q : Int → Int, q = upL ln_16 ((sz_16 : Nat) : Int) 12 := ⟨_, rfl⟩
  obtain ⟨m_17, hm_17⟩ : ∃ q : Int → Int → Int, q = newA 0 (set2 m_16 p 26 a_16) ((sz_16 : Nat) : Int) := ⟨_, rfl⟩
  obtain ⟨sz_17, hsz_17⟩ : ∃ q : Nat, q = sz_16 + 1 := ⟨_, rfl⟩
  obtain ⟨a_17, ha_17⟩ : ∃ q : Int, q = ((sz_16 : Nat) : Int) := ⟨_, rfl⟩
  rw [← hkd_17, ← hln_17, ← hm_17, ← hsz_17]
  rw [← ha_17]
  have hk_17 : kd_17 a_17 = 20 := by rw [ha_17, hkd_17]; exact if_pos rfl
  have hl_17 : ln_17 a_17 = 12 := by rw [ha_17, hln_17]; exact if_pos rfl
  have hE_17 : EXT kd_16 ln_16 sz_16 kd_17 ln_17 sz_17 := by rw [hsz_17, hkd_17, hln_17]; exact EXT.a _ _
  have hEE_17 : EXT kd ln sz kd_17 ln_17 sz_17 := (hEE_16).tr hE_17
  have hmo_17 : ∀ b j : Int, b ≠ a_17 → m_17 b j = (set2 m_16 p 26 a_16) b j := fun b j q => by rw [hm_17]; exact newA_o j (by rw [← ha_17]; exact q)
  have hmn_17 : ∀ j : Int, m_17 a_17 j = 0 := fun j => by rw [hm_17, ha_17]; exact newA_s j
  have hmoA := hmo_17
  have hmnA := hmn_17
  have hEA := hE_17
  have hkA := hk_17
  have haA := ha_17
  have hszA := hsz_17
  have hEEA := hEE_17
  have hlA := hl_17
  have hkp17 := (hEA.2 p (by omega)).1.trans hkp16
  refine jputF hF hn 13 27 2 27 rfl (by decide) (by decide) rfl wd_1490 (by decide +kernel) rfl rfl (Or.inr (Or.inr (Or.inr (Or.inr ⟨_, rfl⟩)))) (by first | assumption | omega) (fun h => by cases h) ?_
  have hT17 := hS16.step (by rfl) (by decide +kernel) (by omega) hEA (by omega) haA hkA hlA hmoA hmnA
  have hS17 := hT17
  have hz17 : ((sz_17 : Nat) : Int) = sz + 17 := by omega
  clear hT17 hS16 hkd_17 hln_17 hm_17 hsz_17 hk_17 hl_17 hE_17 hmo_17 hmn_17 hmoA hmnA hEA hkA haA hszA hlA hz16 hkp16 hEE_16 ha_17
  refine jblk hF [(.aload_n 0, 1), (.bipush 12, 2)] (by decide +kernel) (pc' := 153) (lo' := [(0, (2, p))]) (st' := [(0, 12), (2, p)]) rfl ?_
  refine jnewa hF (at' := .int) 0 (by decide) rfl wd_157 (by decide +kernel) (by omega) (by omega) ⟨Nat.le_of_ble_eq_true rfl, Nat.le_of_ble_eq_true rfl⟩ ?_
  obtain ⟨kd_18, hkd_18⟩ : ∃ q : Int → Nat, q = upK kd_17 ((sz_17 : Nat) : Int) (20) := ⟨_, rfl⟩
  obtain ⟨ln_18, hln_18⟩ : ∃ q : Int → Int, q = upL ln_17 ((sz_17 : Nat) : Int) 12 := ⟨_, rfl⟩
  obtain ⟨m_18, hm_18⟩ : ∃ q : Int → Int → Int, q = newA 0 (set2 m_17 p 27 a_17) ((sz_17 : Nat) : Int) := ⟨_, rfl⟩
  obtain ⟨sz_18, hsz_18⟩ : ∃ q : Nat, q = sz_17 + 1 := ⟨_, rfl⟩
  obtain ⟨a_18, ha_18⟩ : ∃ q : Int, q = ((sz_17 : Nat) : Int) := ⟨_, rfl⟩
  rw [← hkd_18, ← hln_18, ← hm_18, ← hsz_18]
  rw [← ha_18]
  have hk_18 : kd_18 a_18 = 20 := by rw [ha_18, hkd_18]; exact if_pos rfl
  have hl_18 : ln_18 a_18 = 12 := by rw [ha_18, hln_18]; exact if_pos rfl
  have hE_18 : EXT kd_17 ln_17 sz_17 kd_18 ln_18 sz_18 := by rw [hsz_18, hkd_18, hln_18]; exact EXT.a _ _
  have hEE_18 : EXT kd ln sz kd_18 ln_18 sz_18 := (hEE_17).tr hE_18
  have hmo_18 : ∀ b j : Int, b ≠ a_18 → m_18 b j = (set2 m_17 p 27 a_17) b j := fun b j q => by rw [hm_18]; exact newA_o j (by rw [← ha_18]; exact q)
  have hmn_18 : ∀ j : Int, m_18 a_18 j = 0 := fun j => by rw [hm_18, ha_18]; exact newA_s j
  have hmoA := hmo_18
  have hmnA := hmn_18
  have hEA := hE_18
  have hkA := hk_18
  have haA := ha_18
  have hszA := hsz_18
  have hEEA := hEE_18
  have hlA := hl_18
  have hkp18 := (hEA.2 p (by omega)).1.trans hkp17
  refine jputF hF hn 13 28 2 28 rfl (by decide) (by decide) rfl wd_1491 (by decide +kernel) rfl rfl (Or.inr (Or.inr (Or.inr (Or.inr ⟨_, rfl⟩)))) (by first | assumption | omega) (fun h => by cases h) ?_
  have hT18 := hS17.step (by rfl) (by decide +kernel) (by omega) hEA (by omega) haA hkA hlA hmoA hmnA
  have hS18 := hT18
  have hz18 : ((sz_18 : Nat) : Int) = sz + 18 := by omega
  clear hT18 hS17 hkd_18 hln_18 hm_18 hsz_18 hk_18 hl_18 hE_18 hmo_18 hmn_18 hmoA hmnA hEA hkA haA hszA hlA hz17 hkp17 hEE_17 ha_18
  refine jblk hF [(.aload_n 0, 1), (.sipush 480, 3)] (by decide +kernel) (pc' := 162) (lo' := [(0, (2, p))]) (st' := [(0, 480), (2, p)]) rfl ?_
  refine jnewa hF (at' := .int) 0 (by decide) rfl wd_157 (by decide +kernel) (by omega) (by omega) ⟨Nat.le_of_ble_eq_true rfl, Nat.le_of_ble_eq_true rfl⟩ ?_
  obtain ⟨kd_19, hkd_19⟩ : ∃ q : Int → Nat, q = upK kd_18 ((sz_18 : Nat) : Int) (20) := ⟨_, rfl⟩
  obtain ⟨ln_19, hln_19⟩ : ∃ q : Int → Int, q = upL ln_18 ((sz_18 : Nat) : Int) 480 := ⟨_, rfl⟩
  obtain ⟨m_19, hm_19⟩ : ∃ q : Int → Int → Int, q = newA 0 (set2 m_18 p 28 a_18) ((sz_18 : Nat) : Int) := ⟨_, rfl⟩
  obtain ⟨sz_19, hsz_19⟩ : ∃ q : Nat, q = sz_18 + 1 := ⟨_, rfl⟩
  obtain ⟨a_19, ha_19⟩ : ∃ q : Int, q = ((sz_18 : Nat) : Int) := ⟨_, rfl⟩
  rw [← hkd_19, ← hln_19, ← hm_19, ← hsz_19]
  rw [← ha_19]
  have hk_19 : kd_19 a_19 = 20 := by rw [ha_19, hkd_19]; exact if_pos rfl
  have hl_19 : ln_19 a_19 = 480 := by rw [ha_19, hln_19]; exact if_pos rfl
  have hE_19 : EXT kd_18 ln_18 sz_18 kd_19 ln_19 sz_19 := by rw [hsz_19, hkd_19, hln_19]; exact EXT.a _ _
  have hEE_19 : EXT kd ln sz kd_19 ln_19 sz_19 := (hEE_18).tr hE_19
  have hmo_19 : ∀ b j : Int, b ≠ a_19 → m_19 b j = (set2 m_18 p 28 a_18) b j := fun b j q => by rw [hm_19]; exact newA_o j (by rw [← ha_19]; exact q)
  have hmn_19 : ∀ j : Int, m_19 a_19 j = 0 := fun j => by rw [hm_19, ha_19]; exact newA_s j
  have hmoA := hmo_19
  have hmnA := hmn_19
  have hEA := hE_19
  have hkA := hk_19
  have haA := ha_19
  have hszA := hsz_19
  have hEEA := hEE_19
  have hlA := hl_19
  have hkp19 := (hEA.2 p (by omega)).1.trans hkp18
  refine jputF hF hn 13 29 2 29 rfl (by decide) (by decide) rfl wd_1492 (by decide +kernel) rfl rfl (Or.inr (Or.inr (Or.inr (Or.inr ⟨_, rfl⟩)))) (by first | assumption | omega) (fun h => by cases h) ?_
  have hT19 := hS18.step (by rfl) (by decide +kernel) (by omega) hEA (by omega) haA hkA hlA hmoA hmnA
  have hS19 := hT19
  have hz19 : ((sz_19 : Nat) : Int) = sz + 19 := by omega
  clear hT19 hS18 hkd_19 hln_19 hm_19 hsz_19 hk_19 hl_19 hE_19 hmo_19 hmn_19 hmoA hmnA hEA hkA haA hszA hlA hz18 hkp18 hEE_18 ha_19
  refine jblk hF [(.aload_n 0, 1), (.sipush 480, 3)] (by decide +kernel) (pc' := 171) (lo' := [(0, (2, p))]) (st' := [(0, 480), (2, p)]) rfl ?_
  refine jnewa hF (at' := .int) 0 (by decide) rfl wd_157 (by decide +kernel) (by omega) (by omega) ⟨Nat.le_of_ble_eq_true rfl, Nat.le_of_ble_eq_true rfl⟩ ?_
  obtain ⟨kd_20, hkd_20⟩ : ∃ q : Int → Nat, q = upK kd_19 ((sz_19 : Nat) : Int) (20) := ⟨_, rfl⟩
  obtain ⟨ln_20, hln_20⟩ : ∃ q : Int → Int, q = upL ln_19 ((sz_19 : Nat) : Int) 480 := ⟨_, rfl⟩
  obtain ⟨m_20, hm_20⟩ : ∃ q : Int → Int → Int, q = newA 0 (set2 m_19 p 29 a_19) ((sz_19 : Nat) : Int) := ⟨_, rfl⟩
  obtain ⟨sz_20, hsz_20⟩ : ∃ q : Nat, q = sz_19 + 1 := ⟨_, rfl⟩
  obtain ⟨a_20, ha_20⟩ : ∃ q : Int, q = ((sz_19 : Nat) : Int) := ⟨_, rfl⟩
  rw [← hkd_20, ← hln_20, ← hm_20, ← hsz_20]
  rw [← ha_20]
  have hk_20 : kd_20 a_20 = 20 := by rw [ha_20, hkd_20]; exact if_pos rfl
  have hl_20 : ln_20 a_20 = 480 := by rw [ha_20, hln_20]; exact if_pos rfl
  have hE_20 : EXT kd_19 ln_19 sz_19 kd_20 ln_20 sz_20 := by rw [hsz_20, hkd_20, hln_20]; exact EXT.a _ _
  have hEE_20 : EXT kd ln sz kd_20 ln_20 sz_20 := (hEE_19).tr hE_20
  have hmo_20 : ∀ b j : Int, b ≠ a_20 → m_20 b j = (set2 m_19 p 29 a_19) b j := fun b j q => by rw [hm_20]; exact newA_o j (by rw [← ha_20]; exact q)
  have hmn_20 : ∀ j : Int, m_20 a_20 j = 0 := fun j => by rw [hm_20, ha_20]; exact newA_s j
  have hmoA := hmo_20
  have hmnA := hmn_20
  have hEA := hE_20
  have hkA := hk_20
  have haA := ha_20
  have hszA := hsz_20
  have hEEA := hEE_20
  have hlA := hl_20
  have hkp20 := (hEA.2 p (by omega)).1.trans hkp19
  refine jputF hF hn 13 30 2 30 rfl (by decide) (by decide) rfl wd_1493 (by decide +kernel) rfl rfl (Or.inr (Or.inr (Or.inr (Or.inr ⟨_, rfl⟩)))) (by first | assumption | omega) (fun h => by cases h) ?_
  have hT20 := hS19.step (by rfl) (by decide +kernel) (by omega) hEA (by omega) haA hkA hlA hmoA hmnA
  have hS20 := hT20
  have hz20 : ((sz_20 : Nat) : Int) = sz + 20 := by omega
  clear hT20 hS19 hkd_20 hln_20 hm_20 hsz_20 hk_20 hl_20 hE_20 hmo_20 hmn_20 hmoA hmnA hEA hkA haA hszA hlA hz19 hkp19 hEE_19 ha_20
  refine jblk hF [(.aload_n 0, 1), (.sipush 480, 3)] (by decide +kernel) (pc' := 180) (lo' := [(0, (2, p))]) (st' := [(0, 480), (2, p)]) rfl ?_
  refine jnewa hF (at' := .int) 0 (by decide) rfl wd_157 (by decide +kernel) (by omega) (by omega) ⟨Nat.le_of_ble_eq_true rfl, Nat.le_of_ble_eq_true rfl⟩ ?_
  obtain ⟨kd_21, hkd_21⟩ : ∃ q : Int → Nat, q = upK kd_20 ((sz_20 : Nat) : Int) (20) := ⟨_, rfl⟩
  obtain ⟨ln_21, hln_21⟩ : ∃ q : Int → Int, q = upL ln_20 ((sz_20 : Nat) : Int) 480 := ⟨_, rfl⟩
  obtain ⟨m_21, hm_21⟩ : ∃ q : Int → Int → Int, q = newA 0 (set2 m_20 p 30 a_20) ((sz_20 : Nat) : Int) := ⟨_, rfl⟩
  obtain ⟨sz_21, hsz_21⟩ : ∃ q : Nat, q = sz_20 + 1 := ⟨_, rfl⟩
  obtain ⟨a_21, ha_21⟩ : ∃ q : Int, q = ((sz_20 : Nat) : Int) := ⟨_, rfl⟩
  rw [← hkd_21, ← hln_21, ← hm_21, ← hsz_21]
  rw [← ha_21]
  have hk_21 : kd_21 a_21 = 20 := by rw [ha_21, hkd_21]; exact if_pos rfl
  have hl_21 : ln_21 a_21 = 480 := by rw [ha_21, hln_21]; exact if_pos rfl
  have hE_21 : EXT kd_20 ln_20 sz_20 kd_21 ln_21 sz_21 := by rw [hsz_21, hkd_21, hln_21]; exact EXT.a _ _
  have hEE_21 : EXT kd ln sz kd_21 ln_21 sz_21 := (hEE_20).tr hE_21
  have hmo_21 : ∀ b j : Int, b ≠ a_21 → m_21 b j = (set2 m_20 p 30 a_20) b j := fun b j q => by rw [hm_21]; exact newA_o j (by rw [← ha_21]; exact q)
  have hmn_21 : ∀ j : Int, m_21 a_21 j = 0 := fun j => by rw [hm_21, ha_21]; exact newA_s j
  have hmoA := hmo_21
  have hmnA := hmn_21
  have hEA := hE_21
  have hkA := hk_21
  have haA := ha_21
  have hszA := hsz_21
  have hEEA := hEE_21
  have hlA := hl_21
  have hkp21 := (hEA.2 p (by omega)).1.trans hkp20
  refine jputF hF hn 13 31 2 31 rfl (by decide) (by decide) rfl wd_1494 (by decide +kernel) rfl rfl (Or.inr (Or.inr (Or.inr (Or.inr ⟨_, rfl⟩)))) (by first | assumption | omega) (fun h => by cases h) ?_
  have hT21 := hS20.step (by rfl) (by decide +kernel) (by omega) hEA (by omega) haA hkA hlA hmoA hmnA
  have hS21 := hT21
  have hz21 : ((sz_21 : Nat) : Int) = sz + 21 := by omega
  clear hT21 hS20 hkd_21 hln_21 hm_21 hsz_21 hk_21 hl_21 hE_21 hmo_21 hmn_21 hmoA hmnA hEA hkA haA hszA hlA hz20 hkp20 hEE_20 ha_21
  refine jblk hF [(.aload_n 0, 1), (.sipush 480, 3)] (by decide +kernel) (pc' := 189) (lo' := [(0, (2, p))]) (st' := [(0, 480), (2, p)]) rfl ?_
  refine jnewa hF (at' := .int) 0 (by decide) rfl wd_157 (by decide +kernel) (by omega) (by omega) ⟨Nat.le_of_ble_eq_true rfl, Nat.le_of_ble_eq_true rfl⟩ ?_
  obtain ⟨kd_22, hkd_22⟩ : ∃ q : Int → Nat, q = upK kd_21 ((sz_21 : Nat) : Int) (20) := ⟨_, rfl⟩
  obtain ⟨ln_22, hln_22⟩ : ∃ q : Int → Int, q = upL ln_21 ((sz_21 : Nat) : Int) 480 := ⟨_, rfl⟩
  obtain ⟨m_22, hm_22⟩ : ∃ q : Int → Int → Int, q = newA 0 (set2 m_21 p 31 a_21) ((sz_21 : Nat) : Int) := ⟨_, rfl⟩
  obtain ⟨sz_22, hsz_22⟩ : ∃ q : Nat, q = sz_21 + 1 := ⟨_, rfl⟩
  obtain ⟨a_22, ha_22⟩ : ∃ q : Int, q = ((sz_21 : Nat) : Int) := ⟨_, rfl⟩
  rw [← hkd_22, ← hln_22, ← hm_22, ← hsz_22]
  rw [← ha_22]
  have hk_22 : kd_22 a_22 = 20 := by rw [ha_22, hkd_22]; exact if_pos rfl
  have hl_22 : ln_22 a_22 = 480 := by rw [ha_22, hln_22]; exact if_pos rfl
  have hE_22 : EXT kd_21 ln_21 sz_21 kd_22 ln_22 sz_22 := by rw [hsz_22, hkd_22, hln_22]; exact EXT.a _ _
  have hEE_22 : EXT kd ln sz kd_22 ln_22 sz_22 := (hEE_21).tr hE_22
  have hmo_22 : ∀ b j : Int, b ≠ a_22 → m_22 b j = (set2 m_21 p 31 a_21) b j := fun b j q => by rw [hm_22]; exact newA_o j (by rw [← ha_22]; exact q)
  have hmn_22 : ∀ j : Int, m_22 a_22 j = 0 := fun j => by rw [hm_22, ha_22]; exact newA_s j
  have hmoA := hmo_22
  have hmnA := hmn_22
  have hEA := hE_22
  have hkA := hk_22
  have haA := ha_22
  have hszA := hsz_22
  have hEEA := hEE_22
  have hlA := hl_22
  have hkp22 := (hEA.2 p (by omega)).1.trans hkp21
  refine jputF hF hn 13 32 2 32 rfl (by decide) (by decide) rfl wd_1495 (by decide +kernel) rfl rfl (Or.inr (Or.inr (Or.inr (Or.inr ⟨_, rfl⟩)))) (by first | assumption | omega) (fun h => by cases h) ?_
  have hT22 := hS21.step (by rfl) (by decide +kernel) (by omega) hEA (by omega) haA hkA hlA hmoA hmnA
  have hS22 := hT22
  have hz22 : ((sz_22 : Nat) : Int) = sz + 22 := by omega
  clear hT22 hS21 hkd_22 hln_22 hm_22 hsz_22 hk_22 hl_22 hE_22 hmo_22 hmn_22 hmoA hmnA hEA hkA haA hszA hlA hz21 hkp21 hEE_21 ha_22
  refine jblk hF [(.aload_n 0, 1), (.sipush 480, 3)] (by decide +kernel) (pc' := 198) (lo' := [(0, (2, p))]) (st' := [(0, 480), (2, p)]) rfl ?_
  refine jnewa hF (at' := .int) 0 (by decide) rfl wd_157 (by decide +kernel) (by omega) (by omega) ⟨Nat.le_of_ble_eq_true rfl, Nat.le_of_ble_eq_true rfl⟩ ?_
  obtain ⟨kd_23, hkd_23⟩ : ∃ q : Int → Nat, q = upK kd_22 ((sz_22 : Nat) : Int) (20) := ⟨_, rfl⟩
  obtain ⟨ln_23, hln_23⟩ : ∃ q : Int → Int, q = upL ln_22 ((sz_22 : Nat) : Int) 480 := ⟨_, rfl⟩
  obtain ⟨m_23, hm_23⟩ : ∃ q : Int → Int → Int, q = newA 0 (set2 m_22 p 32 a_22) ((sz_22 : Nat) : Int) := ⟨_, rfl⟩
  obtain ⟨sz_23, hsz_23⟩ : ∃ q : Nat, q = sz_22 + 1 := ⟨_, rfl⟩
  obtain ⟨a_23, ha_23⟩ : ∃ q : Int, q = ((sz_22 : Nat) : Int) := ⟨_, rfl⟩
  rw [← hkd_23, ← hln_23, ← hm_23, ← hsz_23]
  rw [← ha_23]
  have hk_23 : kd_23 a_23 = 20 := by rw [ha_23, hkd_23]; exact if_pos rfl
  have hl_23 : ln_23 a_23 = 480 := by rw [ha_23, hln_23]; exact if_pos rfl
  have hE_23 : EXT kd_22 ln_22 sz_22 kd_23 ln_23 sz_23 := by rw [hsz_23, hkd_23, hln_23]; exact EXT.a _ _
  have hEE_23 : EXT kd ln sz kd_23 ln_23 sz_23 := (hEE_22).tr hE_23
  have hmo_23 : ∀ b j : Int, b ≠ a_23 → m_23 b j = (set2 m_22 p 32 a_22) b j := fun b j q => by rw [hm_23]; exact newA_o j (by rw [← ha_23]; exact q)
  have hmn_23 : ∀ j : Int, m_23 a_23 j = 0 := fun j => by rw [hm_23, ha_23]; exact newA_s j
  have hmoA := hmo_23
  have hmnA := hmn_23
  have hEA := hE_23
  have hkA := hk_23
  have haA := ha_23
  have hszA := hsz_23
  have hEEA := hEE_23
  have hlA := hl_23
  have hkp23 := (hEA.2 p (by omega)).1.trans hkp22
  refine jputF hF hn 13 34 2 34 rfl (by decide) (by decide) rfl wd_1497 (by decide +kernel) rfl rfl (Or.inr (Or.inr (Or.inr (Or.inr ⟨_, rfl⟩)))) (by first | assumption | omega) (fun h => by cases h) ?_
  have hT23 := hS22.step (by rfl) (by decide +kernel) (by omega) hEA (by omega) haA hkA hlA hmoA hmnA
  have hS23 := hT23
  have hz23 : ((sz_23 : Nat) : Int) = sz + 23 := by omega
  clear hT23 hS22 hkd_23 hln_23 hm_23 hsz_23 hk_23 hl_23 hE_23 hmo_23 hmn_23 hmoA hmnA hEA hkA haA hszA hlA hz22 hkp22 hEE_22 ha_23
  refine jblk hF [(.aload_n 0, 1), (.sipush 200, 3)] (by decide +kernel) (pc' := 207) (lo' := [(0, (2, p))]) (st' := [(0, 200), (2, p)]) rfl ?_
  refine jnewa hF (at' := .long) 1 (by decide) rfl wd_210 (by decide +kernel) (by omega) (by omega) ⟨Nat.le_of_ble_eq_true rfl, Nat.le_of_ble_eq_true rfl⟩ ?_
  obtain ⟨kd_24, hkd_24⟩ : ∃ q : Int → Nat, q = upK kd_23 ((sz_23 : Nat) : Int) (21) := ⟨_, rfl⟩
  obtain ⟨ln_24, hln_24⟩ : ∃ q : Int → Int, q = upL ln_23 ((sz_23 : Nat) : Int) 200 := ⟨_, rfl⟩
  obtain ⟨m_24, hm_24⟩ : ∃ q : Int → Int → Int, q = newA 0 (set2 m_23 p 34 a_23) ((sz_23 : Nat) : Int) := ⟨_, rfl⟩
  obtain ⟨sz_24, hsz_24⟩ : ∃ q : Nat, q = sz_23 + 1 := ⟨_, rfl⟩
  obtain ⟨a_24, ha_24⟩ : ∃ q : Int, q = ((sz_23 : Nat) : Int) := ⟨_, rfl⟩
  rw [← hkd_24, ← hln_24, ← hm_24, ← hsz_24]
  rw [← ha_24]
  have hk_24 : kd_24 a_24 = 21 := by rw [ha_24, hkd_24]; exact if_pos rfl
  have hl_24 : ln_24 a_24 = 200 := by rw [ha_24, hln_24]; exact if_pos rfl
  have hE_24 : EXT kd_23 ln_23 sz_23 kd_24 ln_24 sz_24 := by rw [hsz_24, hkd_24, hln_24]; exact EXT.a _ _
  have hEE_24 : EXT kd ln sz kd_24 ln_24 sz_24 := (hEE_23).tr hE_24
  have hmo_24 : ∀ b j : Int, b ≠ a_24 → m_24 b j = (set2 m_23 p 34 a_23) b j := fun b j q => by rw [hm_24]; exact newA_o j (by rw [← ha_24]; exact q)
  have hmn_24 : ∀ j : Int, m_24 a_24 j = 0 := fun j => by rw [hm_24, ha_24]; exact newA_s j
  have hmoA := hmo_24
  have hmnA := hmn_24
  have hEA := hE_24
  have hkA := hk_24
  have haA := ha_24
  have hszA := hsz_24
  have hEEA := hEE_24
  have hlA := hl_24
  have hkp24 := (hEA.2 p (by omega)).1.trans hkp23
  refine jputF hF hn 13 35 2 35 rfl (by decide) (by decide) rfl wd_1498 (by decide +kernel) rfl rfl (Or.inr (Or.inr (Or.inr (Or.inr ⟨_, rfl⟩)))) (by first | assumption | omega) (fun h => by cases h) ?_
  have hT24 := hS23.step (by rfl) (by decide +kernel) (by omega) hEA (by omega) haA hkA hlA hmoA hmnA
  have hS24 := hT24
  have hz24 : ((sz_24 : Nat) : Int) = sz + 24 := by omega
  clear hT24 hS23 hkd_24 hln_24 hm_24 hsz_24 hk_24 hl_24 hE_24 hmo_24 hmn_24 hmoA hmnA hEA hkA haA hszA hlA hz23 hkp23 hEE_23 ha_24
  refine jblk hF [(.aload_n 0, 1), (.sipush 200, 3)] (by decide +kernel) (pc' := 216) (lo' := [(0, (2, p))]) (st' := [(0, 200), (2, p)]) rfl ?_
  refine jnewa hF (at' := .long) 1 (by decide) rfl wd_210 (by decide +kernel) (by omega) (by omega) ⟨Nat.le_of_ble_eq_true rfl, Nat.le_of_ble_eq_true rfl⟩ ?_
  obtain ⟨kd_25, hkd_25⟩ : ∃ q : Int → Nat, q = upK kd_24 ((sz_24 : Nat) : Int) (21) := ⟨_, rfl⟩
  obtain ⟨ln_25, hln_25⟩ : ∃ q : Int → Int, q = upL ln_24 ((sz_24 : Nat) : Int) 200 := ⟨_, rfl⟩
  obtain ⟨m_25, hm_25⟩ : ∃ q : Int → Int → Int, q = newA 0 (set2 m_24 p 35 a_24) ((sz_24 : Nat) : Int) := ⟨_, rfl⟩
  obtain ⟨sz_25, hsz_25⟩ : ∃ q : Nat, q = sz_24 + 1 := ⟨_, rfl⟩
  obtain ⟨a_25, ha_25⟩ : ∃ q : Int, q = ((sz_24 : Nat) : Int) := ⟨_, rfl⟩
  rw [← hkd_25, ← hln_25, ← hm_25, ← hsz_25]
  rw [← ha_25]
  have hk_25 : kd_25 a_25 = 21 := by rw [ha_25, hkd_25]; exact if_pos rfl
  have hl_25 : ln_25 a_25 = 200 := by rw [ha_25, hln_25]; exact if_pos rfl
  have hE_25 : EXT kd_24 ln_24 sz_24 kd_25 ln_25 sz_25 := by rw [hsz_25, hkd_25, hln_25]; exact EXT.a _ _
  have hEE_25 : EXT kd ln sz kd_25 ln_25 sz_25 := (hEE_24).tr hE_25
  have hmo_25 : ∀ b j : Int, b ≠ a_25 → m_25 b j = (set2 m_24 p 35 a_24) b j := fun b j q => by rw [hm_25]; exact newA_o j (by rw [← ha_25]; exact q)
  have hmn_25 : ∀ j : Int, m_25 a_25 j = 0 := fun j => by rw [hm_25, ha_25]; exact newA_s j
  have hmoA := hmo_25
  have hmnA := hmn_25
  have hEA := hE_25
  have hkA := hk_25
  have haA := ha_25
  have hszA := hsz_25
  have hEEA := hEE_25
  have hlA := hl_25
  have hkp25 := (hEA.2 p (by omega)).1.trans hkp24
  refine jputF hF hn 13 36 2 36 rfl (by decide) (by decide) rfl wd_1499 (by decide +kernel) rfl rfl (Or.inr (Or.inr (Or.inr (Or.inr ⟨_, rfl⟩)))) (by first | assumption | omega) (fun h => by cases h) ?_
  have hT25 := hS24.step (by rfl) (by decide +kernel) (by omega) hEA (by omega) haA hkA hlA hmoA hmnA
  have hS25 := hT25
  have hz25 : ((sz_25 : Nat) : Int) = sz + 25 := by omega
  clear hT25 hS24 hkd_25 hln_25 hm_25 hsz_25 hk_25 hl_25 hE_25 hmo_25 hmn_25 hmoA hmnA hEA hkA haA hszA hlA hz24 hkp24 hEE_24 ha_25
  refine jblk hF [(.aload_n 0, 1), (.bipush 40, 2)] (by decide +kernel) (pc' := 224) (lo' := [(0, (2, p))]) (st' := [(0, 40), (2, p)]) rfl ?_
  refine jnewa hF (at' := .long) 1 (by decide) rfl wd_210 (by decide +kernel) (by omega) (by omega) ⟨Nat.le_of_ble_eq_true rfl, Nat.le_of_ble_eq_true rfl⟩ ?_
  obtain ⟨kd_26, hkd_26⟩ : ∃ q : Int → Nat, q = upK kd_25 ((sz_25 : Nat) : Int) (21) := ⟨_, rfl⟩
  obtain ⟨ln_26, hln_26⟩ : ∃ q : Int → Int, q = upL ln_25 ((sz_25 : Nat) : Int) 40 := ⟨_, rfl⟩
  obtain ⟨m_26, hm_26⟩ : ∃ q : Int → Int → Int, q = newA 0 (set2 m_25 p 36 a_25) ((sz_25 : Nat) : Int) := ⟨_, rfl⟩
  obtain ⟨sz_26, hsz_26⟩ : ∃ q : Nat, q = sz_25 + 1 := ⟨_, rfl⟩
  obtain ⟨a_26, ha_26⟩ : ∃ q : Int, q = ((sz_25 : Nat) : Int) := ⟨_, rfl⟩
  rw [← hkd_26, ← hln_26, ← hm_26, ← hsz_26]
  rw [← ha_26]
  have hk_26 : kd_26 a_26 = 21 := by rw [ha_26, hkd_26]; exact if_pos rfl
  have hl_26 : ln_26 a_26 = 40 := by rw [ha_26, hln_26]; exact if_pos rfl
  have hE_26 : EXT kd_25 ln_25 sz_25 kd_26 ln_26 sz_26 := by rw [hsz_26, hkd_26, hln_26]; exact EXT.a _ _
  have hEE_26 : EXT kd ln sz kd_26 ln_26 sz_26 := (hEE_25).tr hE_26
  have hmo_26 : ∀ b j : Int, b ≠ a_26 → m_26 b j = (set2 m_25 p 36 a_25) b j := fun b j q => by rw [hm_26]; exact newA_o j (by rw [← ha_26]; exact q)
  have hmn_26 : ∀ j : Int, m_26 a_26 j = 0 := fun j => by rw [hm_26, ha_26]; exact newA_s j
  have hmoA := hmo_26
  have hmnA := hmn_26
  have hEA := hE_26
  have hkA := hk_26
  have haA := ha_26
  have hszA := hsz_26
  have hEEA := hEE_26
  have hlA := hl_26
  have hkp26 := (hEA.2 p (by omega)).1.trans hkp25
  refine jputF hF hn 13 37 2 37 rfl (by decide) (by decide) rfl wd_1500 (by decide +kernel) rfl rfl (Or.inr (Or.inr (Or.inr (Or.inr ⟨_, rfl⟩)))) (by first | assumption | omega) (fun h => by cases h) ?_
  have hT26 := hS25.step (by rfl) (by decide +kernel) (by omega) hEA (by omega) haA hkA hlA hmoA hmnA
  have hS26 := hT26
  have hz26 : ((sz_26 : Nat) : Int) = sz + 26 := by omega
  clear hT26 hS25 hkd_26 hln_26 hm_26 hsz_26 hk_26 hl_26 hE_26 hmo_26 hmn_26 hmoA hmnA hEA hkA haA hszA hlA hz25 hkp25 hEE_25 ha_26
  refine jblk hF [(.aload_n 0, 1), (.iconst 5, 1)] (by decide +kernel) (pc' := 231) (lo' := [(0, (2, p))]) (st' := [(0, 5), (2, p)]) rfl ?_
  refine jnewa hF (at' := .long) 1 (by decide) rfl wd_210 (by decide +kernel) (by omega) (by omega) ⟨Nat.le_of_ble_eq_true rfl, Nat.le_of_ble_eq_true rfl⟩ ?_
  obtain ⟨kd_27, hkd_27⟩ : ∃ q : Int → Nat, q = upK kd_26 ((sz_26 : Nat) : Int) (21) := ⟨_, rfl⟩
  obtain ⟨ln_27, hln_27⟩ : ∃ q : Int → Int, q = upL ln_26 ((sz_26 : Nat) : Int) 5 := ⟨_, rfl⟩
  obtain ⟨m_27, hm_27⟩ : ∃ q : Int → Int → Int, q = newA 0 (set2 m_26 p 37 a_26) ((sz_26 : Nat) : Int) := ⟨_, rfl⟩
  obtain ⟨sz_27, hsz_27⟩ : ∃ q : Nat, q = sz_26 + 1 := ⟨_, rfl⟩
  obtain ⟨a_27, ha_27⟩ : ∃ q : Int, q = ((sz_26 : Nat) : Int) := ⟨_, rfl⟩
  rw [← hkd_27, ← hln_27, ← hm_27, ← hsz_27]
  rw [← ha_27]
  have hk_27 : kd_27 a_27 = 21 := by rw [ha_27, hkd_27]; exact if_pos rfl
  have hl_27 : ln_27 a_27 = 5 := by rw [ha_27, hln_27]; exact if_pos rfl
  have hE_27 : EXT kd_26 ln_26 sz_26 kd_27 ln_27 sz_27 := by rw [hsz_27, hkd_27, hln_27]; exact EXT.a _ _
  have hEE_27 : EXT kd ln sz kd_27 ln_27 sz_27 := (hEE_26).tr hE_27
  have hmo_27 : ∀ b j : Int, b ≠ a_27 → m_27 b j = (set2 m_26 p 37 a_26) b j := fun b j q => by rw [hm_27]; exact newA_o j (by rw [← ha_27]; exact q)
  have hmn_27 : ∀ j : Int, m_27 a_27 j = 0 := fun j => by rw [hm_27, ha_27]; exact newA_s j
  have hmoA := hmo_27
  have hmnA := hmn_27
  have hEA := hE_27
  have hkA := hk_27
  have haA := ha_27
  have hszA := hsz_27
  have hEEA := hEE_27
  have hlA := hl_27
  have hkp27 := (hEA.2 p (by omega)).1.trans hkp26
  refine jputF hF hn 13 38 2 38 rfl (by decide) (by decide) rfl wd_1501 (by decide +kernel) rfl rfl (Or.inr (Or.inr (Or.inr (Or.inr ⟨_, rfl⟩)))) (by first | assumption | omega) (fun h => by cases h) ?_
  have hT27 := hS26.step (by rfl) (by decide +kernel) (by omega) hEA (by omega) haA hkA hlA hmoA hmnA
  have hS27 := hT27
  have hz27 : ((sz_27 : Nat) : Int) = sz + 27 := by omega
  clear hT27 hS26 hkd_27 hln_27 hm_27 hsz_27 hk_27 hl_27 hE_27 hmo_27 hmn_27 hmoA hmnA hEA hkA haA hszA hlA hz26 hkp26 hEE_26 ha_27
  refine jblk hF [(.aload_n 0, 1), (.bipush 60, 2)] (by decide +kernel) (pc' := 239) (lo' := [(0, (2, p))]) (st' := [(0, 60), (2, p)]) rfl ?_
  refine jnewa hF (at' := .int) 0 (by decide) rfl wd_157 (by decide +kernel) (by omega) (by omega) ⟨Nat.le_of_ble_eq_true rfl, Nat.le_of_ble_eq_true rfl⟩ ?_
  obtain ⟨kd_28, hkd_28⟩ : ∃ q : Int → Nat, q = upK kd_27 ((sz_27 : Nat) : Int) (20) := ⟨_, rfl⟩
  obtain ⟨ln_28, hln_28⟩ : ∃ q : Int → Int, q = upL ln_27 ((sz_27 : Nat) : Int) 60 := ⟨_, rfl⟩
  obtain ⟨m_28, hm_28⟩ : ∃ q : Int → Int → Int, q = newA 0 (set2 m_27 p 38 a_27) ((sz_27 : Nat) : Int) := ⟨_, rfl⟩
  obtain ⟨sz_28, hsz_28⟩ : ∃ q : Nat, q = sz_27 + 1 := ⟨_, rfl⟩
  obtain ⟨a_28, ha_28⟩ : ∃ q : Int, q = ((sz_27 : Nat) : Int) := ⟨_, rfl⟩
  rw [← hkd_28, ← hln_28, ← hm_28, ← hsz_28]
  rw [← ha_28]
  have hk_28 : kd_28 a_28 = 20 := by rw [ha_28, hkd_28]; exact if_pos rfl
  have hl_28 : ln_28 a_28 = 60 := by rw [ha_28, hln_28]; exact if_pos rfl
  have hE_28 : EXT kd_27 ln_27 sz_27 kd_28 ln_28 sz_28 := by rw [hsz_28, hkd_28, hln_28]; exact EXT.a _ _
  have hEE_28 : EXT kd ln sz kd_28 ln_28 sz_28 := (hEE_27).tr hE_28
  have hmo_28 : ∀ b j : Int, b ≠ a_28 → m_28 b j = (set2 m_27 p 38 a_27) b j := fun b j q => by rw [hm_28]; exact newA_o j (by rw [← ha_28]; exact q)
  have hmn_28 : ∀ j : Int, m_28 a_28 j = 0 := fun j => by rw [hm_28, ha_28]; exact newA_s j
  have hmoA := hmo_28
  have hmnA := hmn_28
  have hEA := hE_28
  have hkA := hk_28
  have haA := ha_28
  have hszA := hsz_28
  have hEEA := hEE_28
  have hlA := hl_28
  have hkp28 := (hEA.2 p (by omega)).1.trans hkp27
  refine jputF hF hn 13 39 2 39 rfl (by decide) (by decide) rfl wd_1502 (by decide +kernel) rfl rfl (Or.inr (Or.inr (Or.inr (Or.inr ⟨_, rfl⟩)))) (by first | assumption | omega) (fun h => by cases h) ?_
  have hT28 := hS27.step (by rfl) (by decide +kernel) (by omega) hEA (by omega) haA hkA hlA hmoA hmnA
  have hS28 := hT28
  have hz28 : ((sz_28 : Nat) : Int) = sz + 28 := by omega
  clear hT28 hS27 hkd_28 hln_28 hm_28 hsz_28 hk_28 hl_28 hE_28 hmo_28 hmn_28 hmoA hmnA hEA hkA haA hszA hlA hz27 hkp27 hEE_27 ha_28
  refine jblk hF [(.aload_n 0, 1), (.bipush 60, 2)] (by decide +kernel) (pc' := 247) (lo' := [(0, (2, p))]) (st' := [(0, 60), (2, p)]) rfl ?_
  refine jnewa hF (at' := .int) 0 (by decide) rfl wd_157 (by decide +kernel) (by omega) (by omega) ⟨Nat.le_of_ble_eq_true rfl, Nat.le_of_ble_eq_true rfl⟩ ?_
  obtain ⟨kd_29, hkd_29⟩ : ∃ q : Int → Nat, q = upK kd_28 ((sz_28 : Nat) : Int) (20) := ⟨_, rfl⟩
  obtain ⟨ln_29, hln_29⟩ : ∃ q : Int → Int, q = upL ln_28 ((sz_28 : Nat) : Int) 60 := ⟨_, rfl⟩
  obtain ⟨m_29, hm_29⟩ : ∃ q : Int → Int → Int, q = newA 0 (set2 m_28 p 39 a_28) ((sz_28 : Nat) : Int) := ⟨_, rfl⟩
  obtain ⟨sz_29, hsz_29⟩ : ∃ q : Nat, q = sz_28 + 1 := ⟨_, rfl⟩
  obtain ⟨a_29, ha_29⟩ : ∃ q : Int, q = ((sz_28 : Nat) : Int) := ⟨_, rfl⟩
  rw [← hkd_29, ← hln_29, ← hm_29, ← hsz_29]
  rw [← ha_29]
  have hk_29 : kd_29 a_29 = 20 := by rw [ha_29, hkd_29]; exact if_pos rfl
  have hl_29 : ln_29 a_29 = 60 := by rw [ha_29, hln_29]; exact if_pos rfl
  have hE_29 : EXT kd_28 ln_28 sz_28 kd_29 ln_29 sz_29 := by rw [hsz_29, hkd_29, hln_29]; exact EXT.a _ _
  have hEE_29 : EXT kd ln sz kd_29 ln_29 sz_29 := (hEE_28).tr hE_29
  have hmo_29 : ∀ b j : Int, b ≠ a_29 → m_29 b j = (set2 m_28 p 39 a_28) b j := fun b j q => by rw [hm_29]; exact newA_o j (by rw [← ha_29]; exact q)
  have hmn_29 : ∀ j : Int, m_29 a_29 j = 0 := fun j => by rw [hm_29, ha_29]; exact newA_s j
  have hmoA := hmo_29
  have hmnA := hmn_29
  have hEA := hE_29
  have hkA := hk_29
  have haA := ha_29
  have hszA := hsz_29
  have hEEA := hEE_29
  have hlA := hl_29
  have hkp29 := (hEA.2 p (by omega)).1.trans hkp28
  refine jputF hF hn 13 40 2 40 rfl (by decide) (by decide) rfl wd_1503 (by decide +kernel) rfl rfl (Or.inr (Or.inr (Or.inr (Or.inr ⟨_, rfl⟩)))) (by first | assumption | omega) (fun h => by cases h) ?_
  have hT29 := hS28.step (by rfl) (by decide +kernel) (by omega) hEA (by omega) haA hkA hlA hmoA hmnA
  have hS29 := hT29
  have hz29 : ((sz_29 : Nat) : Int) = sz + 29 := by omega
  clear hT29 hS28 hkd_29 hln_29 hm_29 hsz_29 hk_29 hl_29 hE_29 hmo_29 hmn_29 hmoA hmnA hEA hkA haA hszA hlA hz28 hkp28 hEE_28 ha_29
  refine jblk hF [(.aload_n 0, 1), (.bipush 60, 2)] (by decide +kernel) (pc' := 255) (lo' := [(0, (2, p))]) (st' := [(0, 60), (2, p)]) rfl ?_
  refine jnewa hF (at' := .int) 0 (by decide) rfl wd_157 (by decide +kernel) (by omega) (by omega) ⟨Nat.le_of_ble_eq_true rfl, Nat.le_of_ble_eq_true rfl⟩ ?_
  obtain ⟨kd_30, hkd_30⟩ : ∃ q : Int → Nat, q = upK kd_29 ((sz_29 : Nat) : Int) (20) := ⟨_, rfl⟩
  obtain ⟨ln_30, hln_30⟩ : ∃ q : Int → Int, q = upL ln_29 ((sz_29 : Nat) : Int) 60 := ⟨_, rfl⟩
  obtain ⟨m_30, hm_30⟩ : ∃ q : Int → Int → Int, q = newA 0 (set2 m_29 p 40 a_29) ((sz_29 : Nat) : Int) := ⟨_, rfl⟩
  obtain ⟨sz_30, hsz_30⟩ : ∃ q : Nat, q = sz_29 + 1 := ⟨_, rfl⟩
  obtain ⟨a_30, ha_30⟩ : ∃ q : Int, q = ((sz_29 : Nat) : Int) := ⟨_, rfl⟩
  rw [← hkd_30, ← hln_30, ← hm_30, ← hsz_30]
  rw [← ha_30]
  have hk_30 : kd_30 a_30 = 20 := by rw [ha_30, hkd_30]; exact if_pos rfl
  have hl_30 : ln_30 a_30 = 60 := by rw [ha_30, hln_30]; exact if_pos rfl
  have hE_30 : EXT kd_29 ln_29 sz_29 kd_30 ln_30 sz_30 := by rw [hsz_30, hkd_30, hln_30]; exact EXT.a _ _
  have hEE_30 : EXT kd ln sz kd_30 ln_30 sz_30 := (hEE_29).tr hE_30
  have hmo_30 : ∀ b j : Int, b ≠ a_30 → m_30 b j = (set2 m_29 p 40 a_29) b j := fun b j q => by rw [hm_30]; exact newA_o j (by rw [← ha_30]; exact q)
  have hmn_30 : ∀ j : Int, m_30 a_30 j = 0 := fun j => by rw [hm_30, ha_30]; exact newA_s j
  have hmoA := hmo_30
  have hmnA := hmn_30
  have hEA := hE_30
  have hkA := hk_30
  have haA := ha_30
  have hszA := hsz_30
  have hEEA := hEE_30
  have hlA := hl_30
  have hkp30 := (hEA.2 p (by omega)).1.trans hkp29
  refine jputF hF hn 13 41 2 41 rfl (by decide) (by decide) rfl wd_1504 (by decide +kernel) rfl rfl (Or.inr (Or.inr (Or.inr (Or.inr ⟨_, rfl⟩)))) (by first | assumption | omega) (fun h => by cases h) ?_
  have hT30 := hS29.step (by rfl) (by decide +kernel) (by omega) hEA (by omega) haA hkA hlA hmoA hmnA
  have hS30 := hT30
  have hz30 : ((sz_30 : Nat) : Int) = sz + 30 := by omega
  clear hT30 hS29 hkd_30 hln_30 hm_30 hsz_30 hk_30 hl_30 hE_30 hmo_30 hmn_30 hmoA hmnA hEA hkA haA hszA hlA hz29 hkp29 hEE_29 ha_30
  refine jblk hF [(.aload_n 0, 1), (.bipush 60, 2)] (by decide +kernel) (pc' := 263) (lo' := [(0, (2, p))]) (st' := [(0, 60), (2, p)]) rfl ?_
  refine jnewa hF (at' := .int) 0 (by decide) rfl wd_157 (by decide +kernel) (by omega) (by omega) ⟨Nat.le_of_ble_eq_true rfl, Nat.le_of_ble_eq_true rfl⟩ ?_
  obtain ⟨kd_31, hkd_31⟩ : ∃ q : Int → Nat, q = upK kd_30 ((sz_30 : Nat) : Int) (20) := ⟨_, rfl⟩
  obtain ⟨ln_31, hln_31⟩ : ∃ q : Int → Int, q = upL ln_30 ((sz_30 : Nat) : Int) 60 := ⟨_, rfl⟩
  obtain ⟨m_31, hm_31⟩ : ∃ q : Int → Int → Int, q = newA 0 (set2 m_30 p 41 a_30) ((sz_30 : Nat) : Int) := ⟨_, rfl⟩
  obtain ⟨sz_31, hsz_31⟩ : ∃ q : Nat, q = sz_30 + 1 := ⟨_, rfl⟩
  obtain ⟨a_31, ha_31⟩ : ∃ q : Int, q = ((sz_30 : Nat) : Int) := ⟨_, rfl⟩
  rw [← hkd_31, ← hln_31, ← hm_31, ← hsz_31]
  rw [← ha_31]
  have hk_31 : kd_31 a_31 = 20 := by rw [ha_31, hkd_31]; exact if_pos rfl
  have hl_31 : ln_31 a_31 = 60 := by rw [ha_31, hln_31]; exact if_pos rfl
  have hE_31 : EXT kd_30 ln_30 sz_30 kd_31 ln_31 sz_31 := by rw [hsz_31, hkd_31, hln_31]; exact EXT.a _ _
  have hEE_31 : EXT kd ln sz kd_31 ln_31 sz_31 := (hEE_30).tr hE_31
  have hmo_31 : ∀ b j : Int, b ≠ a_31 → m_31 b j = (set2 m_30 p 41 a_30) b j := fun b j q => by rw [hm_31]; exact newA_o j (by rw [← ha_31]; exact q)
  have hmn_31 : ∀ j : Int, m_31 a_31 j = 0 := fun j => by rw [hm_31, ha_31]; exact newA_s j
  have hmoA := hmo_31
  have hmnA := hmn_31
  have hEA := hE_31
  have hkA := hk_31
  have haA := ha_31
  have hszA := hsz_31
  have hEEA := hEE_31
  have hlA := hl_31
  have hkp31 := (hEA.2 p (by omega)).1.trans hkp30
  refine jputF hF hn 13 42 2 42 rfl (by decide) (by decide) rfl wd_1505 (by decide +kernel) rfl rfl (Or.inr (Or.inr (Or.inr (Or.inr ⟨_, rfl⟩)))) (by first | assumption | omega) (fun h => by cases h) ?_
  have hT31 := hS30.step (by rfl) (by decide +kernel) (by omega) hEA (by omega) haA hkA hlA hmoA hmnA
  have hS31 := hT31
  have hz31 : ((sz_31 : Nat) : Int) = sz + 31 := by omega
  clear hT31 hS30 hkd_31 hln_31 hm_31 hsz_31 hk_31 hl_31 hE_31 hmo_31 hmn_31 hmoA hmnA hEA hkA haA hszA hlA hz30 hkp30 hEE_30 ha_31
  refine jblk hF [(.aload_n 0, 1), (.bipush 60, 2)] (by decide +kernel) (pc' := 271) (lo' := [(0, (2, p))]) (st' := [(0, 60), (2, p)]) rfl ?_
  refine jnewa hF (at' := .int) 0 (by decide) rfl wd_157 (by decide +kernel) (by omega) (by omega) ⟨Nat.le_of_ble_eq_true rfl, Nat.le_of_ble_eq_true rfl⟩ ?_
  obtain ⟨kd_32, hkd_32⟩ : ∃ q : Int → Nat, q = upK kd_31 ((sz_31 : Nat) : Int) (20) := ⟨_, rfl⟩
  obtain ⟨ln_32, hln_32⟩ : ∃ q : Int → Int, q = upL ln_31 ((sz_31 : Nat) : Int) 60 := ⟨_, rfl⟩
  obtain ⟨m_32, hm_32⟩ : ∃ q : Int → Int → Int, q = newA 0 (set2 m_31 p 42 a_31) ((sz_31 : Nat) : Int) := ⟨_, rfl⟩
  obtain ⟨sz_32, hsz_32⟩ : ∃ q : Nat, q = sz_31 + 1 := ⟨_, rfl⟩
  obtain ⟨a_32, ha_32⟩ : ∃ q : Int, q = ((sz_31 : Nat) : Int) := ⟨_, rfl⟩
  rw [← hkd_32, ← hln_32, ← hm_32, ← hsz_32]
  rw [← ha_32]
  have hk_32 : kd_32 a_32 = 20 := by rw [ha_32, hkd_32]; exact if_pos rfl
  have hl_32 : ln_32 a_32 = 60 := by rw [ha_32, hln_32]; exact if_pos rfl
  have hE_32 : EXT kd_31 ln_31 sz_31 kd_32 ln_32 sz_32 := by rw [hsz_32, hkd_32, hln_32]; exact EXT.a _ _
  have hEE_32 : EXT kd ln sz kd_32 ln_32 sz_32 := (hEE_31).tr hE_32
  have hmo_32 : ∀ b j : Int, b ≠ a_32 → m_32 b j = (set2 m_31 p 42 a_31) b j := fun b j q => by rw [hm_32]; exact newA_o j (by rw [← ha_32]; exact q)
  have hmn_32 : ∀ j : Int, m_32 a_32 j = 0 := fun j => by rw [hm_32, ha_32]; exact newA_s j
  have hmoA := hmo_32
  have hmnA := hmn_32
  have hEA := hE_32
  have hkA := hk_32
  have haA := ha_32
  have hszA := hsz_32
  have hEEA := hEE_32
  have hlA := hl_32
  have hkp32 := (hEA.2 p (by omega)).1.trans hkp31
  refine jputF hF hn 13 43 2 43 rfl (by decide) (by decide) rfl wd_1506 (by decide +kernel) rfl rfl (Or.inr (Or.inr (Or.inr (Or.inr ⟨_, rfl⟩)))) (by first | assumption | omega) (fun h => by cases h) ?_
  have hT32 := hS31.step (by rfl) (by decide +kernel) (by omega) hEA (by omega) haA hkA hlA hmoA hmnA
  have hS32 := hT32
  have hz32 : ((sz_32 : Nat) : Int) = sz + 32 := by omega
  clear hT32 hS31 hkd_32 hln_32 hm_32 hsz_32 hk_32 hl_32 hE_32 hmo_32 hmn_32 hmoA hmnA hEA hkA haA hszA hlA hz31 hkp31 hEE_31 ha_32
  refine jblk hF [(.aload_n 0, 1), (.bipush 60, 2)] (by decide +kernel) (pc' := 279) (lo' := [(0, (2, p))]) (st' := [(0, 60), (2, p)]) rfl ?_
  refine jnewa hF (at' := .int) 0 (by decide) rfl wd_157 (by decide +kernel) (by omega) (by omega) ⟨Nat.le_of_ble_eq_true rfl, Nat.le_of_ble_eq_true rfl⟩ ?_
  obtain ⟨kd_33, hkd_33⟩ : ∃ q : Int → Nat, q = upK kd_32 ((sz_32 : Nat) : Int) (20) := ⟨_, rfl⟩
  obtain ⟨ln_33, hln_33⟩ : ∃ q : Int → Int, q = upL ln_32 ((sz_32 : Nat) : Int) 60 := ⟨_, rfl⟩
  obtain ⟨m_33, hm_33⟩ : ∃ q : Int → Int → Int, q = newA 0 (set2 m_32 p 43 a_32) ((sz_32 : Nat) : Int) := ⟨_, rfl⟩
  obtain ⟨sz_33, hsz_33⟩ : ∃ q : Nat, q = sz_32 + 1 := ⟨_, rfl⟩
  obtain ⟨a_33, ha_33⟩ : ∃ q : Int, q = ((sz_32 : Nat) : Int) := ⟨_, rfl⟩
  rw [← hkd_33, ← hln_33, ← hm_33, ← hsz_33]
  rw [← ha_33]
  have hk_33 : kd_33 a_33 = 20 := by rw [ha_33, hkd_33]; exact if_pos rfl
  have hl_33 : ln_33 a_33 = 60 := by rw [ha_33, hln_33]; exact if_pos rfl
  have hE_33 : EXT kd_32 ln_32 sz_32 kd_33 ln_33 sz_33 := by rw [hsz_33, hkd_33, hln_33]; exact EXT.a _ _
  have hEE_33 : EXT kd ln sz kd_33 ln_33 sz_33 := (hEE_32).tr hE_33
  have hmo_33 : ∀ b j : Int, b ≠ a_33 → m_33 b j = (set2 m_32 p 43 a_32) b j := fun b j q => by rw [hm_33]; exact newA_o j (by rw [← ha_33]; exact q)
  have hmn_33 : ∀ j : Int, m_33 a_33 j = 0 := fun j => by rw [hm_33, ha_33]; exact newA_s j
  have hmoA := hmo_33
  have hmnA := hmn_33
  have hEA := hE_33
  have hkA := hk_33
  have haA := ha_33
  have hszA := hsz_33
  have hEEA := hEE_33
  have hlA := hl_33
  have hkp33 := (hEA.2 p (by omega)).1.trans hkp32
  refine jputF hF hn 13 44 2 44 rfl (by decide) (by decide) rfl wd_1507 (by decide +kernel) rfl rfl (Or.inr (Or.inr (Or.inr (Or.inr ⟨_, rfl⟩)))) (by first | assumption | omega) (fun h => by cases h) ?_
  have hT33 := hS32.step (by rfl) (by decide +kernel) (by omega) hEA (by omega) haA hkA hlA hmoA hmnA
  have hS33 := hT33
  have hz33 : ((sz_33 : Nat) : Int) = sz + 33 := by omega
  clear hT33 hS32 hkd_33 hln_33 hm_33 hsz_33 hk_33 hl_33 hE_33 hmo_33 hmn_33 hmoA hmnA hEA hkA haA hszA hlA hz32 hkp32 hEE_32 ha_33
  refine jblk hF [(.aload_n 0, 1), (.bipush 40, 2)] (by decide +kernel) (pc' := 287) (lo' := [(0, (2, p))]) (st' := [(0, 40), (2, p)]) rfl ?_
  refine jnewa hF (at' := .long) 1 (by decide) rfl wd_210 (by decide +kernel) (by omega) (by omega) ⟨Nat.le_of_ble_eq_true rfl, Nat.le_of_ble_eq_true rfl⟩ ?_
  obtain ⟨kd_34, hkd_34⟩ : ∃ q : Int → Nat, q = upK kd_33 ((sz_33 : Nat) : Int) (21) := ⟨_, rfl⟩
  obtain ⟨ln_34, hln_34⟩ : ∃ q : Int → Int, q = upL ln_33 ((sz_33 : Nat) : Int) 40 := ⟨_, rfl⟩
  obtain ⟨m_34, hm_34⟩ : ∃ q : Int → Int → Int, q = newA 0 (set2 m_33 p 44 a_33) ((sz_33 : Nat) : Int) := ⟨_, rfl⟩
  obtain ⟨sz_34, hsz_34⟩ : ∃ q : Nat, q = sz_33 + 1 := ⟨_, rfl⟩
  obtain ⟨a_34, ha_34⟩ : ∃ q : Int, q = ((sz_33 : Nat) : Int) := ⟨_, rfl⟩
  rw [← hkd_34, ← hln_34, ← hm_34, ← hsz_34]
  rw [← ha_34]
  have hk_34 : kd_34 a_34 = 21 := by rw [ha_34, hkd_34]; exact if_pos rfl
  have hl_34 : ln_34 a_34 = 40 := by rw [ha_34, hln_34]; exact if_pos rfl
  have hE_34 : EXT kd_33 ln_33 sz_33 kd_34 ln_34 sz_34 := by rw [hsz_34, hkd_34, hln_34]; exact EXT.a _ _
  have hEE_34 : EXT kd ln sz kd_34 ln_34 sz_34 := (hEE_33).tr hE_34
  have hmo_34 : ∀ b j : Int, b ≠ a_34 → m_34 b j = (set2 m_33 p 44 a_33) b j := fun b j q => by rw [hm_34]; exact newA_o j (by rw [← ha_34]; exact q)
  have hmn_34 : ∀ j : Int, m_34 a_34 j = 0 := fun j => by rw [hm_34, ha_34]; exact newA_s j
  have hmoA := hmo_34
  have hmnA := hmn_34
  have hEA := hE_34
  have hkA := hk_34
  have haA := ha_34
  have hszA := hsz_34
  have hEEA := hEE_34
  have hlA := hl_34
  have hkp34 := (hEA.2 p (by omega)).1.trans hkp33
  refine jputF hF hn 13 47 2 47 rfl (by decide) (by decide) rfl wd_1510 (by decide +kernel) rfl rfl (Or.inr (Or.inr (Or.inr (Or.inr ⟨_, rfl⟩)))) (by first | assumption | omega) (fun h => by cases h) ?_
  have hT34 := hS33.step (by rfl) (by decide +kernel) (by omega) hEA (by omega) haA hkA hlA hmoA hmnA
  have hS34 := hT34
  have hz34 : ((sz_34 : Nat) : Int) = sz + 34 := by omega
  clear hT34 hS33 hkd_34 hln_34 hm_34 hsz_34 hk_34 hl_34 hE_34 hmo_34 hmn_34 hmoA hmnA hEA hkA haA hszA hlA hz33 hkp33 hEE_33 ha_34
  refine jblk hF [(.aload_n 0, 1), (.bipush 40, 2)] (by decide +kernel) (pc' := 295) (lo' := [(0, (2, p))]) (st' := [(0, 40), (2, p)]) rfl ?_
  refine jnewa hF (at' := .long) 1 (by decide) rfl wd_210 (by decide +kernel) (by omega) (by omega) ⟨Nat.le_of_ble_eq_true rfl, Nat.le_of_ble_eq_true rfl⟩ ?_
  obtain ⟨kd_35, hkd_35⟩ : ∃ q : Int → Nat, q = upK kd_34 ((sz_34 : Nat) : Int) (21) := ⟨_, rfl⟩
  obtain ⟨ln_35, hln_35⟩ : ∃ q : Int → Int, q = upL ln_34 ((sz_34 : Nat) : Int) 40 := ⟨_, rfl⟩
  obtain ⟨m_35, hm_35⟩ : ∃ q : Int → Int → Int, q = newA 0 (set2 m_34 p 47 a_34) ((sz_34 : Nat) : Int) := ⟨_, rfl⟩
  obtain ⟨sz_35, hsz_35⟩ : ∃ q : Nat, q = sz_34 + 1 := ⟨_, rfl⟩
  obtain ⟨a_35, ha_35⟩ : ∃ q : Int, q = ((sz_34 : Nat) : Int) := ⟨_, rfl⟩
  rw [← hkd_35, ← hln_35, ← hm_35, ← hsz_35]
  rw [← ha_35]
  have hk_35 : kd_35 a_35 = 21 := by rw [ha_35, hkd_35]; exact if_pos rfl
  have hl_35 : ln_35 a_35 = 40 := by rw [ha_35, hln_35]; exact if_pos rfl
  have hE_35 : EXT kd_34 ln_34 sz_34 kd_35 ln_35 sz_35 := by rw [hsz_35, hkd_35, hln_35]; exact EXT.a _ _
  have hEE_35 : EXT kd ln sz kd_35 ln_35 sz_35 := (hEE_34).tr hE_35
  have hmo_35 : ∀ b j : Int, b ≠ a_35 → m_35 b j = (set2 m_34 p 47 a_34) b j := fun b j q => by rw [hm_35]; exact newA_o j (by rw [← ha_35]; exact q)
  have hmn_35 : ∀ j : Int, m_35 a_35 j = 0 := fun j => by rw [hm_35, ha_35]; exact newA_s j
  have hmoA := hmo_35
  have hmnA := hmn_35
  have hEA := hE_35
  have hkA := hk_35
  have haA := ha_35
  have hszA := hsz_35
  have hEEA := hEE_35
  have hlA := hl_35
  have hkp35 := (hEA.2 p (by omega)).1.trans hkp34
  refine jputF hF hn 13 48 2 48 rfl (by decide) (by decide) rfl wd_1511 (by decide +kernel) rfl rfl (Or.inr (Or.inr (Or.inr (Or.inr ⟨_, rfl⟩)))) (by first | assumption | omega) (fun h => by cases h) ?_
  have hT35 := hS34.step (by rfl) (by decide +kernel) (by omega) hEA (by omega) haA hkA hlA hmoA hmnA
  have hS35 := hT35
  have hz35 : ((sz_35 : Nat) : Int) = sz + 35 := by omega
  clear hT35 hS34 hkd_35 hln_35 hm_35 hsz_35 hk_35 hl_35 hE_35 hmo_35 hmn_35 hmoA hmnA hEA hkA haA hszA hlA hz34 hkp34 hEE_34 ha_35
  refine jblk hF [(.aload_n 0, 1), (.iconst 4, 1)] (by decide +kernel) (pc' := 302) (lo' := [(0, (2, p))]) (st' := [(0, 4), (2, p)]) rfl ?_
  refine jnewa hF (at' := .int) 0 (by decide) rfl wd_157 (by decide +kernel) (by omega) (by omega) ⟨Nat.le_of_ble_eq_true rfl, Nat.le_of_ble_eq_true rfl⟩ ?_
  obtain ⟨kd_36, hkd_36⟩ : ∃ q : Int → Nat, q = upK kd_35 ((sz_35 : Nat) : Int) (20) := ⟨_, rfl⟩
  obtain ⟨ln_36, hln_36⟩ : ∃ q : Int → Int, q = upL ln_35 ((sz_35 : Nat) : Int) 4 := ⟨_, rfl⟩
  obtain ⟨m_36, hm_36⟩ : ∃ q : Int → Int → Int, q = newA 0 (set2 m_35 p 48 a_35) ((sz_35 : Nat) : Int) := ⟨_, rfl⟩
  obtain ⟨sz_36, hsz_36⟩ : ∃ q : Nat, q = sz_35 + 1 := ⟨_, rfl⟩
  obtain ⟨a_36, ha_36⟩ : ∃ q : Int, q = ((sz_35 : Nat) : Int) := ⟨_, rfl⟩
  rw [← hkd_36, ← hln_36, ← hm_36, ← hsz_36]
  rw [← ha_36]
  have hk_36 : kd_36 a_36 = 20 := by rw [ha_36, hkd_36]; exact if_pos rfl
  have hl_36 : ln_36 a_36 = 4 := by rw [ha_36, hln_36]; exact if_pos rfl
  have hE_36 : EXT kd_35 ln_35 sz_35 kd_36 ln_36 sz_36 := by rw [hsz_36, hkd_36, hln_36]; exact EXT.a _ _
  have hEE_36 : EXT kd ln sz kd_36 ln_36 sz_36 := (hEE_35).tr hE_36
  have hmo_36 : ∀ b j : Int, b ≠ a_36 → m_36 b j = (set2 m_35 p 48 a_35) b j := fun b j q => by rw [hm_36]; exact newA_o j (by rw [← ha_36]; exact q)
  have hmn_36 : ∀ j : Int, m_36 a_36 j = 0 := fun j => by rw [hm_36, ha_36]; exact newA_s j
  have hmoA := hmo_36
  have hmnA := hmn_36
  have hEA := hE_36
  have hkA := hk_36
  have haA := ha_36
  have hszA := hsz_36
  have hEEA := hEE_36
  have hlA := hl_36
  have hkp36 := (hEA.2 p (by omega)).1.trans hkp35
  refine jputF hF hn 13 49 2 49 rfl (by decide) (by decide) rfl wd_1512 (by decide +kernel) rfl rfl (Or.inr (Or.inr (Or.inr (Or.inr ⟨_, rfl⟩)))) (by first | assumption | omega) (fun h => by cases h) ?_
  have hT36 := hS35.step (by rfl) (by decide +kernel) (by omega) hEA (by omega) haA hkA hlA hmoA hmnA
  have hS36 := hT36
  have hz36 : ((sz_36 : Nat) : Int) = sz + 36 := by omega
  clear hT36 hS35 hkd_36 hln_36 hm_36 hsz_36 hk_36 hl_36 hE_36 hmo_36 hmn_36 hmoA hmnA hEA hkA haA hszA hlA hz35 hkp35 hEE_35 ha_36
  refine jblk hF [(.aload_n 0, 1), (.iconst 4, 1)] (by decide +kernel) (pc' := 309) (lo' := [(0, (2, p))]) (st' := [(0, 4), (2, p)]) rfl ?_
  refine jnewa hF (at' := .int) 0 (by decide) rfl wd_157 (by decide +kernel) (by omega) (by omega) ⟨Nat.le_of_ble_eq_true rfl, Nat.le_of_ble_eq_true rfl⟩ ?_
  obtain ⟨kd_37, hkd_37⟩ : ∃ q : Int → Nat, q = upK kd_36 ((sz_36 : Nat) : Int) (20) := ⟨_, rfl⟩
  obtain ⟨ln_37, hln_37⟩ : ∃ q : Int → Int, q = upL ln_36 ((sz_36 : Nat) : Int) 4 := ⟨_, rfl⟩
  obtain ⟨m_37, hm_37⟩ : ∃ q : Int → Int → Int, q = newA 0 (set2 m_36 p 49 a_36) ((sz_36 : Nat) : Int) := ⟨_, rfl⟩
  obtain ⟨sz_37, hsz_37⟩ : ∃ q : Nat, q = sz_36 + 1 := ⟨_, rfl⟩
  obtain ⟨a_37, ha_37⟩ : ∃ q : Int, q = ((sz_36 : Nat) : Int) := ⟨_, rfl⟩
  rw [← hkd_37, ← hln_37, ← hm_37, ← hsz_37]
  rw [← ha_37]
  have hk_37 : kd_37 a_37 = 20 := by rw [ha_37, hkd_37]; exact if_pos rfl
  have hl_37 : ln_37 a_37 = 4 := by rw [ha_37, hln_37]; exact if_pos rfl
  have hE_37 : EXT kd_36 ln_36 sz_36 kd_37 ln_37 sz_37 := by rw [hsz_37, hkd_37, hln_37]; exact EXT.a _ _
  have hEE_37 : EXT kd ln sz kd_37 ln_37 sz_37 := (hEE_36).tr hE_37
  have hmo_37 : ∀ b j : Int, b ≠ a_37 → m_37 b j = (set2 m_36 p 49 a_36) b j := fun b j q => by rw [hm_37]; exact newA_o j (by rw [← ha_37]; exact q)
  have hmn_37 : ∀ j : Int, m_37 a_37 j = 0 := fun j => by rw [hm_37, ha_37]; exact newA_s j
  have hmoA := hmo_37
  have hmnA := hmn_37
  have hEA := hE_37
  have hkA := hk_37
  have haA := ha_37
  have hszA := hsz_37
  have hEEA := hEE_37
  have hlA := hl_37
  have hkp37 := (hEA.2 p (by omega)).1.trans hkp36
  refine jputF hF hn 13 50 2 50 rfl (by decide) (by decide) rfl wd_1513 (by decide +kernel) rfl rfl (Or.inr (Or.inr (Or.inr (Or.inr ⟨_, rfl⟩)))) (by first | assumption | omega) (fun h => by cases h) ?_
  have hT37 := hS36.step (by rfl) (by decide +kernel) (by omega) hEA (by omega) haA hkA hlA hmoA hmnA
  have hS37 := hT37
  have hz37 : ((sz_37 : Nat) : Int) = sz + 37 := by omega
  clear hT37 hS36 hkd_37 hln_37 hm_37 hsz_37 hk_37 hl_37 hE_37 hmo_37 hmn_37 hmoA hmnA hEA hkA haA hszA hlA hz36 hkp36 hEE_36 ha_37
  refine jblk hF [(.aload_n 0, 1), (.iconst 4, 1)] (by decide +kernel) (pc' := 316) (lo' := [(0, (2, p))]) (st' := [(0, 4), (2, p)]) rfl ?_
  refine jnewa hF (at' := .long) 1 (by decide) rfl wd_210 (by decide +kernel) (by omega) (by omega) ⟨Nat.le_of_ble_eq_true rfl, Nat.le_of_ble_eq_true rfl⟩ ?_
  obtain ⟨kd_38, hkd_38⟩ : ∃ q : Int → Nat, q = upK kd_37 ((sz_37 : Nat) : Int) (21) := ⟨_, rfl⟩
  obtain ⟨ln_38, hln_38⟩ : ∃ q : Int → Int, q = upL ln_37 ((sz_37 : Nat) : Int) 4 := ⟨_, rfl⟩
  obtain ⟨m_38, hm_38⟩ : ∃ q : Int → Int → Int, q = newA 0 (set2 m_37 p 50 a_37) ((sz_37 : Nat) : Int) := ⟨_, rfl⟩
  obtain ⟨sz_38, hsz_38⟩ : ∃ q : Nat, q = sz_37 + 1 := ⟨_, rfl⟩
  obtain ⟨a_38, ha_38⟩ : ∃ q : Int, q = ((sz_37 : Nat) : Int) := ⟨_, rfl⟩
  rw [← hkd_38, ← hln_38, ← hm_38, ← hsz_38]
  rw [← ha_38]
  have hk_38 : kd_38 a_38 = 21 := by rw [ha_38, hkd_38]; exact if_pos rfl
  have hl_38 : ln_38 a_38 = 4 := by rw [ha_38, hln_38]; exact if_pos rfl
  have hE_38 : EXT kd_37 ln_37 sz_37 kd_38 ln_38 sz_38 := by rw [hsz_38, hkd_38, hln_38]; exact EXT.a _ _
  have hEE_38 : EXT kd ln sz kd_38 ln_38 sz_38 := (hEE_37).tr hE_38
  have hmo_38 : ∀ b j : Int, b ≠ a_38 → m_38 b j = (set2 m_37 p 50 a_37) b j := fun b j q => by rw [hm_38]; exact newA_o j (by rw [← ha_38]; exact q)
  have hmn_38 : ∀ j : Int, m_38 a_38 j = 0 := fun j => by rw [hm_38, ha_38]; exact newA_s j
  have hmoA := hmo_38
  have hmnA := hmn_38
  have hEA := hE_38
  have hkA := hk_38
  have haA := ha_38
  have hszA := hsz_38
  have hEEA := hEE_38
  have hlA := hl_38
  have hkp38 := (hEA.2 p (by omega)).1.trans hkp37
  refine jputF hF hn 13 51 2 51 rfl (by decide) (by decide) rfl wd_1514 (by decide +kernel) rfl rfl (Or.inr (Or.inr (Or.inr (Or.inr ⟨_, rfl⟩)))) (by first | assumption | omega) (fun h => by cases h) ?_
  have hT38 := hS37.step (by rfl) (by decide +kernel) (by omega) hEA (by omega) haA hkA hlA hmoA hmnA
  have hS38 := hT38
  have hz38 : ((sz_38 : Nat) : Int) = sz + 38 := by omega
  clear hT38 hS37 hkd_38 hln_38 hm_38 hsz_38 hk_38 hl_38 hE_38 hmo_38 hmn_38 hmoA hmnA hEA hkA haA hszA hlA hz37 hkp37 hEE_37 ha_38
  refine jblk hF [(.aload_n 0, 1), (.iconst 4, 1)] (by decide +kernel) (pc' := 323) (lo' := [(0, (2, p))]) (st' := [(0, 4), (2, p)]) rfl ?_
  refine jnewa hF (at' := .int) 0 (by decide) rfl wd_157 (by decide +kernel) (by omega) (by omega) ⟨Nat.le_of_ble_eq_true rfl, Nat.le_of_ble_eq_true rfl⟩ ?_
  obtain ⟨kd_39, hkd_39⟩ : ∃ q : Int → Nat, q = upK kd_38 ((sz_38 : Nat) : Int) (20) := ⟨_, rfl⟩
  obtain ⟨ln_39, hln_39⟩ : ∃ q : Int → Int, q = upL ln_38 ((sz_38 : Nat) : Int) 4 := ⟨_, rfl⟩
  obtain ⟨m_39, hm_39⟩ : ∃ q : Int → Int → Int, q = newA 0 (set2 m_38 p 51 a_38) ((sz_38 : Nat) : Int) := ⟨_, rfl⟩
  obtain ⟨sz_39, hsz_39⟩ : ∃ q : Nat, q = sz_38 + 1 := ⟨_, rfl⟩
  obtain ⟨a_39, ha_39⟩ : ∃ q : Int, q = ((sz_38 : Nat) : Int) := ⟨_, rfl⟩
  rw [← hkd_39, ← hln_39, ← hm_39, ← hsz_39]
  rw [← ha_39]
  have hk_39 : kd_39 a_39 = 20 := by rw [ha_39, hkd_39]; exact if_pos rfl
  have hl_39 : ln_39 a_39 = 4 := by rw [ha_39, hln_39]; exact if_pos rfl
  have hE_39 : EXT kd_38 ln_38 sz_38 kd_39 ln_39 sz_39 := by rw [hsz_39, hkd_39, hln_39]; exact EXT.a _ _
  have hEE_39 : EXT kd ln sz kd_39 ln_39 sz_39 := (hEE_38).tr hE_39
  have hmo_39 : ∀ b j : Int, b ≠ a_39 → m_39 b j = (set2 m_38 p 51 a_38) b j := fun b j q => by rw [hm_39]; exact newA_o j (by rw [← ha_39]; exact q)
  have hmn_39 : ∀ j : Int, m_39 a_39 j = 0 := fun j => by rw [hm_39, ha_39]; exact newA_s j
  have hmoA := hmo_39
  have hmnA := hmn_39
  have hEA := hE_39
  have hkA := hk_39
  have haA := ha_39
  have hszA := hsz_39
  have hEEA := hEE_39
  have hlA := hl_39
  have hkp39 := (hEA.2 p (by omega)).1.trans hkp38
  refine jputF hF hn 13 52 2 52 rfl (by decide) (by decide) rfl wd_1515 (by decide +kernel) rfl rfl (Or.inr (Or.inr (Or.inr (Or.inr ⟨_, rfl⟩)))) (by first | assumption | omega) (fun h => by cases h) ?_
  have hT39 := hS38.step (by rfl) (by decide +kernel) (by omega) hEA (by omega) haA hkA hlA hmoA hmnA
  have hS39 := hT39
  have hz39 : ((sz_39 : Nat) : Int) = sz + 39 := by omega
  clear hT39 hS38 hkd_39 hln_39 hm_39 hsz_39 hk_39 hl_39 hE_39 hmo_39 hmn_39 hmoA hmnA hEA hkA haA hszA hlA hz38 hkp38 hEE_38 ha_39
  refine jblk hF [(.aload_n 0, 1), (.iconst 4, 1)] (by decide +kernel) (pc' := 330) (lo' := [(0, (2, p))]) (st' := [(0, 4), (2, p)]) rfl ?_
  refine jnewa hF (at' := .int) 0 (by decide) rfl wd_157 (by decide +kernel) (by omega) (by omega) ⟨Nat.le_of_ble_eq_true rfl, Nat.le_of_ble_eq_true rfl⟩ ?_
  obtain ⟨kd_40, hkd_40⟩ : ∃ q : Int → Nat, q = upK kd_39 ((sz_39 : Nat) : Int) (20) := ⟨_, rfl⟩
  obtain ⟨ln_40, hln_40⟩ : ∃ q : Int → Int, q = upL ln_39 ((sz_39 : Nat) : Int) 4 := ⟨_, rfl⟩
  obtain ⟨m_40, hm_40⟩ : ∃ q : Int → Int → Int, q = newA 0 (set2 m_39 p 52 a_39) ((sz_39 : Nat) : Int) := ⟨_, rfl⟩
  obtain ⟨sz_40, hsz_40⟩ : ∃ q : Nat, q = sz_39 + 1 := ⟨_, rfl⟩
  obtain ⟨a_40, ha_40⟩ : ∃ q : Int, q = ((sz_39 : Nat) : Int) := ⟨_, rfl⟩
  rw [← hkd_40, ← hln_40, ← hm_40, ← hsz_40]
  rw [← ha_40]
  have hk_40 : kd_40 a_40 = 20 := by rw [ha_40, hkd_40]; exact if_pos rfl
  have hl_40 : ln_40 a_40 = 4 := by rw [ha_40, hln_40]; exact if_pos rfl
  have hE_40 : EXT kd_39 ln_39 sz_39 kd_40 ln_40 sz_40 := by rw [hsz_40, hkd_40, hln_40]; exact EXT.a _ _
  have hEE_40 : EXT kd ln sz kd_40 ln_40 sz_40 := (hEE_39).tr hE_40
  have hmo_40 : ∀ b j : Int, b ≠ a_40 → m_40 b j = (set2 m_39 p 52 a_39) b j := fun b j q => by rw [hm_40]; exact newA_o j (by rw [← ha_40]; exact q)
  have hmn_40 : ∀ j : Int, m_40 a_40 j = 0 := fun j => by rw [hm_40, ha_40]; exact newA_s j
  have hmoA := hmo_40
  have hmnA := hmn_40
  have hEA := hE_40
  have hkA := hk_40
  have haA := ha_40
  have hszA := hsz_40
  have hEEA := hEE_40
  have hlA := hl_40
  have hkp40 := (hEA.2 p (by omega)).1.trans hkp39
  refine jputF hF hn 13 53 2 53 rfl (by decide) (by decide) rfl wd_1516 (by decide +kernel) rfl rfl (Or.inr (Or.inr (Or.inr (Or.inr ⟨_, rfl⟩)))) (by first | assumption | omega) (fun h => by cases h) ?_
  have hT40 := hS39.step (by rfl) (by decide +kernel) (by omega) hEA (by omega) haA hkA hlA hmoA hmnA
  have hS40 := hT40
  have hz40 : ((sz_40 : Nat) : Int) = sz + 40 := by omega
  clear hT40 hS39 hkd_40 hln_40 hm_40 hsz_40 hk_40 hl_40 hE_40 hmo_40 hmn_40 hmoA hmnA hEA hkA haA hszA hlA hz39 hkp39 hEE_39 ha_40
  refine jblk hF [(.aload_n 0, 1), (.iconst 4, 1)] (by decide +kernel) (pc' := 337) (lo' := [(0, (2, p))]) (st' := [(0, 4), (2, p)]) rfl ?_
  refine jnewa hF (at' := .long) 1 (by decide) rfl wd_210 (by decide +kernel) (by omega) (by omega) ⟨Nat.le_of_ble_eq_true rfl, Nat.le_of_ble_eq_true rfl⟩ ?_
  obtain ⟨kd_41, hkd_41⟩ : ∃ q : Int → Nat, q = upK kd_40 ((sz_40 : Nat) : Int) (21) := ⟨_, rfl⟩
  obtain ⟨ln_41, hln_41⟩ : ∃ q : Int → Int, q = upL ln_40 ((sz_40 : Nat) : Int) 4 := ⟨_, rfl⟩
  obtain ⟨m_41, hm_41⟩ : ∃ q : Int → Int → Int, q = newA 0 (set2 m_40 p 53 a_40) ((sz_40 : Nat) : Int) := ⟨_, rfl⟩
  obtain ⟨sz_41, hsz_41⟩ : ∃ q : Nat, q = sz_40 + 1 := ⟨_, rfl⟩
  obtain ⟨a_41, ha_41⟩ : ∃ q : Int, q = ((sz_40 : Nat) : Int) := ⟨_, rfl⟩
  rw [← hkd_41, ← hln_41, ← hm_41, ← hsz_41]
  rw [← ha_41]
  have hk_41 : kd_41 a_41 = 21 := by rw [ha_41, hkd_41]; exact if_pos rfl
  have hl_41 : ln_41 a_41 = 4 := by rw [ha_41, hln_41]; exact if_pos rfl
  have hE_41 : EXT kd_40 ln_40 sz_40 kd_41 ln_41 sz_41 := by rw [hsz_41, hkd_41, hln_41]; exact EXT.a _ _
  have hEE_41 : EXT kd ln sz kd_41 ln_41 sz_41 := (hEE_40).tr hE_41
  have hmo_41 : ∀ b j : Int, b ≠ a_41 → m_41 b j = (set2 m_40 p 53 a_40) b j := fun b j q => by rw [hm_41]; exact newA_o j (by rw [← ha_41]; exact q)
  have hmn_41 : ∀ j : Int, m_41 a_41 j = 0 := fun j => by rw [hm_41, ha_41]; exact newA_s j
  have hmoA := hmo_41
  have hmnA := hmn_41
  have hEA := hE_41
  have hkA := hk_41
  have haA := ha_41
  have hszA := hsz_41
  have hEEA := hEE_41
  have hlA := hl_41
  have hkp41 := (hEA.2 p (by omega)).1.trans hkp40
  refine jputF hF hn 13 54 2 54 rfl (by decide) (by decide) rfl wd_1517 (by decide +kernel) rfl rfl (Or.inr (Or.inr (Or.inr (Or.inr ⟨_, rfl⟩)))) (by first | assumption | omega) (fun h => by cases h) ?_
  have hT41 := hS40.step (by rfl) (by decide +kernel) (by omega) hEA (by omega) haA hkA hlA hmoA hmnA
  have hS41 := hT41
  have hz41 : ((sz_41 : Nat) : Int) = sz + 41 := by omega
  clear hT41 hS40 hkd_41 hln_41 hm_41 hsz_41 hk_41 hl_41 hE_41 hmo_41 hmn_41 hmoA hmnA hEA hkA haA hszA hlA hz40 hkp40 hEE_40 ha_41
  refine jblk hF [(.aload_n 0, 1), (.bipush 40, 2)] (by decide +kernel) (pc' := 345) (lo' := [(0, (2, p))]) (st' := [(0, 40), (2, p)]) rfl ?_
  refine jnewa hF (at' := .int) 0 (by decide) rfl wd_157 (by decide +kernel) (by omega) (by omega) ⟨Nat.le_of_ble_eq_true rfl, Nat.le_of_ble_eq_true rfl⟩ ?_
  obtain ⟨kd_42, hkd_42⟩ : ∃ q : Int → Nat, q = upK kd_41 ((sz_41 : Nat) : Int) (20) := ⟨_, rfl⟩
  obtain ⟨ln_42, hln_42⟩ : ∃ q : Int → Int, q = upL ln_41 ((sz_41 : Nat) : Int) 40 := ⟨_, rfl⟩
  obtain ⟨m_42, hm_42⟩ : ∃ q : Int → Int → Int, q = newA 0 (set2 m_41 p 54 a_41) ((sz_41 : Nat) : Int) := ⟨_, rfl⟩
  obtain ⟨sz_42, hsz_42⟩ : ∃ q : Nat, q = sz_41 + 1 := ⟨_, rfl⟩
  obtain ⟨a_42, ha_42⟩ : ∃ q : Int, q = ((sz_41 : Nat) : Int) := ⟨_, rfl⟩
  rw [← hkd_42, ← hln_42, ← hm_42, ← hsz_42]
  rw [← ha_42]
  have hk_42 : kd_42 a_42 = 20 := by rw [ha_42, hkd_42]; exact if_pos rfl
  have hl_42 : ln_42 a_42 = 40 := by rw [ha_42, hln_42]; exact if_pos rfl
  have hE_42 : EXT kd_41 ln_41 sz_41 kd_42 ln_42 sz_42 := by rw [hsz_42, hkd_42, hln_42]; exact EXT.a _ _
  have hEE_42 : EXT kd ln sz kd_42 ln_42 sz_42 := (hEE_41).tr hE_42
  have hmo_42 : ∀ b j : Int, b ≠ a_42 → m_42 b j = (set2 m_41 p 54 a_41) b j := fun b j q => by rw [hm_42]; exact newA_o j (by rw [← ha_42]; exact q)
  have hmn_42 : ∀ j : Int, m_42 a_42 j = 0 := fun j => by rw [hm_42, ha_42]; exact newA_s j
  have hmoA := hmo_42
  have hmnA := hmn_42
  have hEA := hE_42
  have hkA := hk_42
  have haA := ha_42
  have hszA := hsz_42
  have hEEA := hEE_42
  have hlA := hl_42
  have hkp42 := (hEA.2 p (by omega)).1.trans hkp41
  refine jputF hF hn 13 60 2 60 rfl (by decide) (by decide) rfl wd_1523 (by decide +kernel) rfl rfl (Or.inr (Or.inr (Or.inr (Or.inr ⟨_, rfl⟩)))) (by first | assumption | omega) (fun h => by cases h) ?_
  have hT42 := hS41.step (by rfl) (by decide +kernel) (by omega) hEA (by omega) haA hkA hlA hmoA hmnA
  have hS42 := hT42
  have hz42 : ((sz_42 : Nat) : Int) = sz + 42 := by omega
  clear hT42 hS41 hkd_42 hln_42 hm_42 hsz_42 hk_42 hl_42 hE_42 hmo_42 hmn_42 hmoA hmnA hEA hkA haA hszA hlA hz41 hkp41 hEE_41 ha_42
  refine jblk hF [(.aload_n 0, 1), (.bipush 40, 2)] (by decide +kernel) (pc' := 353) (lo' := [(0, (2, p))]) (st' := [(0, 40), (2, p)]) rfl ?_
  refine jnewa hF (at' := .int) 0 (by decide) rfl wd_157 (by decide +kernel) (by omega) (by omega) ⟨Nat.le_of_ble_eq_true rfl, Nat.le_of_ble_eq_true rfl⟩ ?_
  obtain ⟨kd_43, hkd_43⟩ : ∃ q : Int → Nat, q = upK kd_42 ((sz_42 : Nat) : Int) (20) := ⟨_, rfl⟩
  obtain ⟨ln_43, hln_43⟩ : ∃ q : Int → Int, q = upL ln_42 ((sz_42 : Nat) : Int) 40 := ⟨_, rfl⟩
  obtain ⟨m_43, hm_43⟩ : ∃ q : Int → Int → Int, q = newA 0 (set2 m_42 p 60 a_42) ((sz_42 : Nat) : Int) := ⟨_, rfl⟩
  obtain ⟨sz_43, hsz_43⟩ : ∃ q : Nat, q = sz_42 + 1 := ⟨_, rfl⟩
  obtain ⟨a_43, ha_43⟩ : ∃ q : Int, q = ((sz_42 : Nat) : Int) := ⟨_, rfl⟩
  rw [← hkd_43, ← hln_43, ← hm_43, ← hsz_43]
  rw [← ha_43]
  have hk_43 : kd_43 a_43 = 20 := by rw [ha_43, hkd_43]; exact if_pos rfl
  have hl_43 : ln_43 a_43 = 40 := by rw [ha_43, hln_43]; exact if_pos rfl
  have hE_43 : EXT kd_42 ln_42 sz_42 kd_43 ln_43 sz_43 := by rw [hsz_43, hkd_43, hln_43]; exact EXT.a _ _
  have hEE_43 : EXT kd ln sz kd_43 ln_43 sz_43 := (hEE_42).tr hE_43
  have hmo_43 : ∀ b j : Int, b ≠ a_43 → m_43 b j = (set2 m_42 p 60 a_42) b j := fun b j q => by rw [hm_43]; exact newA_o j (by rw [← ha_43]; exact q)
  have hmn_43 : ∀ j : Int, m_43 a_43 j = 0 := fun j => by rw [hm_43, ha_43]; exact newA_s j
  have hmoA := hmo_43
  have hmnA := hmn_43
  have hEA := hE_43
  have hkA := hk_43
  have haA := ha_43
  have hszA := hsz_43
  have hEEA := hEE_43
  have hlA := hl_43
  have hkp43 := (hEA.2 p (by omega)).1.trans hkp42
  refine jputF hF hn 13 61 2 61 rfl (by decide) (by decide) rfl wd_1524 (by decide +kernel) rfl rfl (Or.inr (Or.inr (Or.inr (Or.inr ⟨_, rfl⟩)))) (by first | assumption | omega) (fun h => by cases h) ?_
  have hT43 := hS42.step (by rfl) (by decide +kernel) (by omega) hEA (by omega) haA hkA hlA hmoA hmnA
  have hS43 := hT43
  have hz43 : ((sz_43 : Nat) : Int) = sz + 43 := by omega
  clear hT43 hS42 hkd_43 hln_43 hm_43 hsz_43 hk_43 hl_43 hE_43 hmo_43 hmn_43 hmoA hmnA hEA hkA haA hszA hlA hz42 hkp42 hEE_42 ha_43
  refine jblk hF [(.aload_n 0, 1), (.bipush 40, 2)] (by decide +kernel) (pc' := 361) (lo' := [(0, (2, p))]) (st' := [(0, 40), (2, p)]) rfl ?_
  refine jnewa hF (at' := .int) 0 (by decide) rfl wd_157 (by decide +kernel) (by omega) (by omega) ⟨Nat.le_of_ble_eq_true rfl, Nat.le_of_ble_eq_true rfl⟩ ?_
  obtain ⟨kd_44, hkd_44⟩ : ∃ q : Int → Nat, q = upK kd_43 ((sz_43 : Nat) : Int) (20) := ⟨_, rfl⟩
  obtain ⟨ln_44, hln_44⟩ : ∃ q : Int → Int, q = upL ln_43 ((sz_43 : Nat) : Int) 40 := ⟨_, rfl⟩
  obtain ⟨m_44, hm_44⟩ : ∃ q : Int → Int → Int, q = newA 0 (set2 m_43 p 61 a_43) ((sz_43 : Nat) : Int) := ⟨_, rfl⟩
  obtain ⟨sz_44, hsz_44⟩ : ∃ q : Nat, q = sz_43 + 1 := ⟨_, rfl⟩
  obtain ⟨a_44, ha_44⟩ : ∃ q : Int, q = ((sz_43 : Nat) : Int) := ⟨_, rfl⟩
  rw [← hkd_44, ← hln_44, ← hm_44, ← hsz_44]
  rw [← ha_44]
  have hk_44 : kd_44 a_44 = 20 := by rw [ha_44, hkd_44]; exact if_pos rfl
  have hl_44 : ln_44 a_44 = 40 := by rw [ha_44, hln_44]; exact if_pos rfl
  have hE_44 : EXT kd_43 ln_43 sz_43 kd_44 ln_44 sz_44 := by rw [hsz_44, hkd_44, hln_44]; exact EXT.a _ _
  have hEE_44 : EXT kd ln sz kd_44 ln_44 sz_44 := (hEE_43).tr hE_44
  have hmo_44 : ∀ b j : Int, b ≠ a_44 → m_44 b j = (set2 m_43 p 61 a_43) b j := fun b j q => by rw [hm_44]; exact newA_o j (by rw [← ha_44]; exact q)
  have hmn_44 : ∀ j : Int, m_44 a_44 j = 0 := fun j => by rw [hm_44, ha_44]; exact newA_s j
  have hmoA := hmo_44
  have hmnA := hmn_44
  have hEA := hE_44
  have hkA := hk_44
  have haA := ha_44
  have hszA := hsz_44
  have hEEA := hEE_44
  have hlA := hl_44
  have hkp44 := (hEA.2 p (by omega)).1.trans hkp43
  refine jputF hF hn 13 62 2 62 rfl (by decide) (by decide) rfl wd_1525 (by decide +kernel) rfl rfl (Or.inr (Or.inr (Or.inr (Or.inr ⟨_, rfl⟩)))) (by first | assumption | omega) (fun h => by cases h) ?_
  have hT44 := hS43.step (by rfl) (by decide +kernel) (by omega) hEA (by omega) haA hkA hlA hmoA hmnA
  have hS44 := hT44
  have hz44 : ((sz_44 : Nat) : Int) = sz + 44 := by omega
  clear hT44 hS43 hkd_44 hln_44 hm_44 hsz_44 hk_44 hl_44 hE_44 hmo_44 hmn_44 hmoA hmnA hEA hkA haA hszA hlA hz43 hkp43 hEE_43 ha_44
  refine jblk hF [(.aload_n 0, 1), (.bipush 40, 2)] (by decide +kernel) (pc' := 369) (lo' := [(0, (2, p))]) (st' := [(0, 40), (2, p)]) rfl ?_
  refine jnewa hF (at' := .int) 0 (by decide) rfl wd_157 (by decide +kernel) (by omega) (by omega) ⟨Nat.le_of_ble_eq_true rfl, Nat.le_of_ble_eq_true rfl⟩ ?_
  obtain ⟨kd_45, hkd_45⟩ : ∃ q : Int → Nat, q = upK kd_44 ((sz_44 : Nat) : Int) (20) := ⟨_, rfl⟩
  obtain ⟨ln_45, hln_45⟩ : ∃ q : Int → Int, q = upL ln_44 ((sz_44 : Nat) : Int) 40 := ⟨_, rfl⟩
  obtain ⟨m_45, hm_45⟩ : ∃ q : Int → Int → Int, q = newA 0 (set2 m_44 p 62 a_44) ((sz_44 : Nat) : Int) := ⟨_, rfl⟩
  obtain ⟨sz_45, hsz_45⟩ : ∃ q : Nat, q = sz_44 + 1 := ⟨_, rfl⟩
  obtain ⟨a_45, ha_45⟩ : ∃ q : Int, q = ((sz_44 : Nat) : Int) := ⟨_, rfl⟩
  rw [← hkd_45, ← hln_45, ← hm_45, ← hsz_45]
  rw [← ha_45]
  have hk_45 : kd_45 a_45 = 20 := by rw [ha_45, hkd_45]; exact if_pos rfl
  have hl_45 : ln_45 a_45 = 40 := by rw [ha_45, hln_45]; exact if_pos rfl
  have hE_45 : EXT kd_44 ln_44 sz_44 kd_45 ln_45 sz_45 := by rw [hsz_45, hkd_45, hln_45]; exact EXT.a _ _
  have hEE_45 : EXT kd ln sz kd_45 ln_45 sz_45 := (hEE_44).tr hE_45
  have hmo_45 : ∀ b j : Int, b ≠ a_45 → m_45 b j = (set2 m_44 p 62 a_44) b j := fun b j q => by rw [hm_45]; exact newA_o j (by rw [← ha_45]; exact q)
  have hmn_45 : ∀ j : Int, m_45 a_45 j = 0 := fun j => by rw [hm_45, ha_45]; exact newA_s j
  have hmoA := hmo_45
  have hmnA := hmn_45
  have hEA := hE_45
  have hkA := hk_45
  have haA := ha_45
  have hszA := hsz_45
  have hEEA := hEE_45
  have hlA := hl_45
  have hkp45 := (hEA.2 p (by omega)).1.trans hkp44
  refine jputF hF hn 13 63 2 63 rfl (by decide) (by decide) rfl wd_1526 (by decide +kernel) rfl rfl (Or.inr (Or.inr (Or.inr (Or.inr ⟨_, rfl⟩)))) (by first | assumption | omega) (fun h => by cases h) ?_
  have hT45 := hS44.step (by rfl) (by decide +kernel) (by omega) hEA (by omega) haA hkA hlA hmoA hmnA
  have hS45 := hT45
  have hz45 : ((sz_45 : Nat) : Int) = sz + 45 := by omega
  clear hT45 hS44 hkd_45 hln_45 hm_45 hsz_45 hk_45 hl_45 hE_45 hmo_45 hmn_45 hmoA hmnA hEA hkA haA hszA hlA hz44 hkp44 hEE_44 ha_45
  refine jblk hF [(.aload_n 0, 1), (.bipush 40, 2)] (by decide +kernel) (pc' := 377) (lo' := [(0, (2, p))]) (st' := [(0, 40), (2, p)]) rfl ?_
  refine jnewa hF (at' := .int) 0 (by decide) rfl wd_157 (by decide +kernel) (by omega) (by omega) ⟨Nat.le_of_ble_eq_true rfl, Nat.le_of_ble_eq_true rfl⟩ ?_
  obtain ⟨kd_46, hkd_46⟩ : ∃ q : Int → Nat, q = upK kd_45 ((sz_45 : Nat) : Int) (20) := ⟨_, rfl⟩
  obtain ⟨ln_46, hln_46⟩ : ∃ q : Int → Int, q = upL ln_45 ((sz_45 : Nat) : Int) 40 := ⟨_, rfl⟩
  obtain ⟨m_46, hm_46⟩ : ∃ q : Int → Int → Int, q = newA 0 (set2 m_45 p 63 a_45) ((sz_45 : Nat) : Int) := ⟨_, rfl⟩
  obtain ⟨sz_46, hsz_46⟩ : ∃ q : Nat, q = sz_45 + 1 := ⟨_, rfl⟩
  obtain ⟨a_46, ha_46⟩ : ∃ q : Int, q = ((sz_45 : Nat) : Int) := ⟨_, rfl⟩
  rw [← hkd_46, ← hln_46, ← hm_46, ← hsz_46]
  rw [← ha_46]
  have hk_46 : kd_46 a_46 = 20 := by rw [ha_46, hkd_46]; exact if_pos rfl
  have hl_46 : ln_46 a_46 = 40 := by rw [ha_46, hln_46]; exact if_pos rfl
  have hE_46 : EXT kd_45 ln_45 sz_45 kd_46 ln_46 sz_46 := by rw [hsz_46, hkd_46, hln_46]; exact EXT.a _ _
  have hEE_46 : EXT kd ln sz kd_46 ln_46 sz_46 := (hEE_45).tr hE_46
  have hmo_46 : ∀ b j : Int, b ≠ a_46 → m_46 b j = (set2 m_45 p 63 a_45) b j := fun b j q => by rw [hm_46]; exact newA_o j (by rw [← ha_46]; exact q)
  have hmn_46 : ∀ j : Int, m_46 a_46 j = 0 := fun j => by rw [hm_46, ha_46]; exact newA_s j
  have hmoA := hmo_46
  have hmnA := hmn_46
  have hEA := hE_46
  have hkA := hk_46
  have haA := ha_46
  have hszA := hsz_46
  have hEEA := hEE_46
  have hlA := hl_46
  have hkp46 := (hEA.2 p (by omega)).1.trans hkp45
  refine jputF hF hn 13 64 2 64 rfl (by decide) (by decide) rfl wd_1527 (by decide +kernel) rfl rfl (Or.inr (Or.inr (Or.inr (Or.inr ⟨_, rfl⟩)))) (by first | assumption | omega) (fun h => by cases h) ?_
  have hT46 := hS45.step (by rfl) (by decide +kernel) (by omega) hEA (by omega) haA hkA hlA hmoA hmnA
  have hS46 := hT46
  have hz46 : ((sz_46 : Nat) : Int) = sz + 46 := by omega
  clear hT46 hS45 hkd_46 hln_46 hm_46 hsz_46 hk_46 hl_46 hE_46 hmo_46 hmn_46 hmoA hmnA hEA hkA haA hszA hlA hz45 hkp45 hEE_45 ha_46
  refine jblk hF [(.aload_n 0, 1), (.bipush 12, 2)] (by decide +kernel) (pc' := 385) (lo' := [(0, (2, p))]) (st' := [(0, 12), (2, p)]) rfl ?_
  refine jnewa hF (at' := .boolean) 2 (by decide) rfl wd_1734 (by decide +kernel) (by omega) (by omega) ⟨Nat.le_of_ble_eq_true rfl, Nat.le_of_ble_eq_true rfl⟩ ?_
  obtain ⟨kd_47, hkd_47⟩ : ∃ q : Int → Nat, q = upK kd_46 ((sz_46 : Nat) : Int) (22) := ⟨_, rfl⟩
  obtain ⟨ln_47, hln_47⟩ : ∃ q : Int → Int, q = upL ln_46 ((sz_46 : Nat) : Int) 12 := ⟨_, rfl⟩
  obtain ⟨m_47, hm_47⟩ : ∃ q : Int → Int → Int, q = newA 0 (set2 m_46 p 64 a_46) ((sz_46 : Nat) : Int) := ⟨_, rfl⟩
  obtain ⟨sz_47, hsz_47⟩ : ∃ q : Nat, q = sz_46 + 1 := ⟨_, rfl⟩
  obtain ⟨a_47, ha_47⟩ : ∃ q : Int, q = ((sz_46 : Nat) : Int) := ⟨_, rfl⟩
  rw [← hkd_47, ← hln_47, ← hm_47, ← hsz_47]
  rw [← ha_47]
  have hk_47 : kd_47 a_47 = 22 := by rw [ha_47, hkd_47]; exact if_pos rfl
  have hl_47 : ln_47 a_47 = 12 := by rw [ha_47, hln_47]; exact if_pos rfl
  have hE_47 : EXT kd_46 ln_46 sz_46 kd_47 ln_47 sz_47 := by rw [hsz_47, hkd_47, hln_47]; exact EXT.a _ _
  have hEE_47 : EXT kd ln sz kd_47 ln_47 sz_47 := (hEE_46).tr hE_47
  have hmo_47 : ∀ b j : Int, b ≠ a_47 → m_47 b j = (set2 m_46 p 64 a_46) b j := fun b j q => by rw [hm_47]; exact newA_o j (by rw [← ha_47]; exact q)
  have hmn_47 : ∀ j : Int, m_47 a_47 j = 0 := fun j => by rw [hm_47, ha_47]; exact newA_s j
  have hmoA := hmo_47
  have hmnA := hmn_47
  have hEA := hE_47
  have hkA := hk_47
  have haA := ha_47
  have hszA := hsz_47
  have hEEA := hEE_47
  have hlA := hl_47
  have hkp47 := (hEA.2 p (by omega)).1.trans hkp46
  refine jputF hF hn 13 66 2 66 rfl (by decide) (by decide) rfl wd_1529 (by decide +kernel) rfl rfl (Or.inr (Or.inr (Or.inr (Or.inr ⟨_, rfl⟩)))) (by first | assumption | omega) (fun h => by cases h) ?_
  have hT47 := hS46.step (by rfl) (by decide +kernel) (by omega) hEA (by omega) haA hkA hlA hmoA hmnA
  have hS47 := hT47
  have hz47 : ((sz_47 : Nat) : Int) = sz + 47 := by omega
  clear hT47 hS46 hkd_47 hln_47 hm_47 hsz_47 hk_47 hl_47 hE_47 hmo_47 hmn_47 hmoA hmnA hEA hkA haA hszA hlA hz46 hkp46 hEE_46 ha_47
  refine jblk hF [(.aload_n 0, 1), (.sipush 480, 3)] (by decide +kernel) (pc' := 394) (lo' := [(0, (2, p))]) (st' := [(0, 480), (2, p)]) rfl ?_
  refine jnewa hF (at' := .long) 1 (by decide) rfl wd_210 (by decide +kernel) (by omega) (by omega) ⟨Nat.le_of_ble_eq_true rfl, Nat.le_of_ble_eq_true rfl⟩ ?_
  obtain ⟨kd_48, hkd_48⟩ : ∃ q : Int → Nat, q = upK kd_47 ((sz_47 : Nat) : Int) (21) := ⟨_, rfl⟩
  obtain ⟨ln_48, hln_48⟩ : ∃ q : Int → Int, q = upL ln_47 ((sz_47 : Nat) : Int) 480 := ⟨_, rfl⟩
  obtain ⟨m_48, hm_48⟩ : ∃ q : Int → Int → Int, q = newA 0 (set2 m_47 p 66 a_47) ((sz_47 : Nat) : Int) := ⟨_, rfl⟩
  obtain ⟨sz_48, hsz_48⟩ : ∃ q : Nat, q = sz_47 + 1 := ⟨_, rfl⟩
  obtain ⟨a_48, ha_48⟩ : ∃ q : Int, q = ((sz_47 : Nat) : Int) := ⟨_, rfl⟩
  rw [← hkd_48, ← hln_48, ← hm_48, ← hsz_48]
  rw [← ha_48]
  have hk_48 : kd_48 a_48 = 21 := by rw [ha_48, hkd_48]; exact if_pos rfl
  have hl_48 : ln_48 a_48 = 480 := by rw [ha_48, hln_48]; exact if_pos rfl
  have hE_48 : EXT kd_47 ln_47 sz_47 kd_48 ln_48 sz_48 := by rw [hsz_48, hkd_48, hln_48]; exact EXT.a _ _
  have hEE_48 : EXT kd ln sz kd_48 ln_48 sz_48 := (hEE_47).tr hE_48
  have hmo_48 : ∀ b j : Int, b ≠ a_48 → m_48 b j = (set2 m_47 p 66 a_47) b j := fun b j q => by rw [hm_48]; exact newA_o j (by rw [← ha_48]; exact q)
  have hmn_48 : ∀ j : Int, m_48 a_48 j = 0 := fun j => by rw [hm_48, ha_48]; exact newA_s j
  have hmoA := hmo_48
  have hmnA := hmn_48
  have hEA := hE_48
  have hkA := hk_48
  have haA := ha_48
  have hszA := hsz_48
  have hEEA := hEE_48
  have hlA := hl_48
  have hkp48 := (hEA.2 p (by omega)).1.trans hkp47
  refine jputF hF hn 13 67 2 67 rfl (by decide) (by decide) rfl wd_1530 (by decide +kernel) rfl rfl (Or.inr (Or.inr (Or.inr (Or.inr ⟨_, rfl⟩)))) (by first | assumption | omega) (fun h => by cases h) ?_
  have hT48 := hS47.step (by rfl) (by decide +kernel) (by omega) hEA (by omega) haA hkA hlA hmoA hmnA
  have hS48 := hT48
  have hz48 : ((sz_48 : Nat) : Int) = sz + 48 := by omega
  clear hT48 hS47 hkd_48 hln_48 hm_48 hsz_48 hk_48 hl_48 hE_48 hmo_48 hmn_48 hmoA hmnA hEA hkA haA hszA hlA hz47 hkp47 hEE_47 ha_48
  refine jblk hF [(.aload_n 0, 1), (.bipush 80, 2)] (by decide +kernel) (pc' := 402) (lo' := [(0, (2, p))]) (st' := [(0, 80), (2, p)]) rfl ?_
  refine jnewa hF (at' := .int) 0 (by decide) rfl wd_157 (by decide +kernel) (by omega) (by omega) ⟨Nat.le_of_ble_eq_true rfl, Nat.le_of_ble_eq_true rfl⟩ ?_
  obtain ⟨kd_49, hkd_49⟩ : ∃ q : Int → Nat, q = upK kd_48 ((sz_48 : Nat) : Int) (20) := ⟨_, rfl⟩
  obtain ⟨ln_49, hln_49⟩ : ∃ q : Int → Int, q = upL ln_48 ((sz_48 : Nat) : Int) 80 := ⟨_, rfl⟩
  obtain ⟨m_49, hm_49⟩ : ∃ q : Int → Int → Int, q = newA 0 (set2 m_48 p 67 a_48) ((sz_48 : Nat) : Int) := ⟨_, rfl⟩
  obtain ⟨sz_49, hsz_49⟩ : ∃ q : Nat, q = sz_48 + 1 := ⟨_, rfl⟩
  obtain ⟨a_49, ha_49⟩ : ∃ q : Int, q = ((sz_48 : Nat) : Int) := ⟨_, rfl⟩
  rw [← hkd_49, ← hln_49, ← hm_49, ← hsz_49]
  rw [← ha_49]
  have hk_49 : kd_49 a_49 = 20 := by rw [ha_49, hkd_49]; exact if_pos rfl
  have hl_49 : ln_49 a_49 = 80 := by rw [ha_49, hln_49]; exact if_pos rfl
  have hE_49 : EXT kd_48 ln_48 sz_48 kd_49 ln_49 sz_49 := by rw [hsz_49, hkd_49, hln_49]; exact EXT.a _ _
  have hEE_49 : EXT kd ln sz kd_49 ln_49 sz_49 := (hEE_48).tr hE_49
  have hmo_49 : ∀ b j : Int, b ≠ a_49 → m_49 b j = (set2 m_48 p 67 a_48) b j := fun b j q => by rw [hm_49]; exact newA_o j (by rw [← ha_49]; exact q)
  have hmn_49 : ∀ j : Int, m_49 a_49 j = 0 := fun j => by rw [hm_49, ha_49]; exact newA_s j
  have hmoA := hmo_49
  have hmnA := hmn_49
  have hEA := hE_49
  have hkA := hk_49
  have haA := ha_49
  have hszA := hsz_49
  have hEEA := hEE_49
  have hlA := hl_49
  have hkp49 := (hEA.2 p (by omega)).1.trans hkp48
  refine jputF hF hn 13 68 2 68 rfl (by decide) (by decide) rfl wd_1531 (by decide +kernel) rfl rfl (Or.inr (Or.inr (Or.inr (Or.inr ⟨_, rfl⟩)))) (by first | assumption | omega) (fun h => by cases h) ?_
  have hT49 := hS48.step (by rfl) (by decide +kernel) (by omega) hEA (by omega) haA hkA hlA hmoA hmnA
  have hS49 := hT49
  have hz49 : ((sz_49 : Nat) : Int) = sz + 49 := by omega
  clear hT49 hS48 hkd_49 hln_49 hm_49 hsz_49 hk_49 hl_49 hE_49 hmo_49 hmn_49 hmoA hmnA hEA hkA haA hszA hlA hz48 hkp48 hEE_48 ha_49
  refine jblk hF [(.aload_n 0, 1), (.bipush 80, 2)] (by decide +kernel) (pc' := 410) (lo' := [(0, (2, p))]) (st' := [(0, 80), (2, p)]) rfl ?_
  refine jnewa hF (at' := .int) 0 (by decide) rfl wd_157 (by decide +kernel) (by omega) (by omega) ⟨Nat.le_of_ble_eq_true rfl, Nat.le_of_ble_eq_true rfl⟩ ?_
  obtain ⟨kd_50, hkd_50⟩ : ∃ q : Int → Nat, q = upK kd_49 ((sz_49 : Nat) : Int) (20) := ⟨_, rfl⟩
  obtain ⟨ln_50, hln_50⟩ : ∃ q : Int → Int, q = upL ln_49 ((sz_49 : Nat) : Int) 80 := ⟨_, rfl⟩
  obtain ⟨m_50, hm_50⟩ : ∃ q : Int → Int → Int, q = newA 0 (set2 m_49 p 68 a_49) ((sz_49 : Nat) : Int) := ⟨_, rfl⟩
  obtain ⟨sz_50, hsz_50⟩ : ∃ q : Nat, q = sz_49 + 1 := ⟨_, rfl⟩
  obtain ⟨a_50, ha_50⟩ : ∃ q : Int, q = ((sz_49 : Nat) : Int) := ⟨_, rfl⟩
  rw [← hkd_50, ← hln_50, ← hm_50, ← hsz_50]
  rw [← ha_50]
  have hk_50 : kd_50 a_50 = 20 := by rw [ha_50, hkd_50]; exact if_pos rfl
  have hl_50 : ln_50 a_50 = 80 := by rw [ha_50, hln_50]; exact if_pos rfl
  have hE_50 : EXT kd_49 ln_49 sz_49 kd_50 ln_50 sz_50 := by rw [hsz_50, hkd_50, hln_50]; exact EXT.a _ _
  have hEE_50 : EXT kd ln sz kd_50 ln_50 sz_50 := (hEE_49).tr hE_50
  have hmo_50 : ∀ b j : Int, b ≠ a_50 → m_50 b j = (set2 m_49 p 68 a_49) b j := fun b j q => by rw [hm_50]; exact newA_o j (by rw [← ha_50]; exact q)
  have hmn_50 : ∀ j : Int, m_50 a_50 j = 0 := fun j => by rw [hm_50, ha_50]; exact newA_s j
  have hmoA := hmo_50
  have hmnA := hmn_50
  have hEA := hE_50
  have hkA := hk_50
  have haA := ha_50
  have hszA := hsz_50
  have hEEA := hEE_50
  have hlA := hl_50
  have hkp50 := (hEA.2 p (by omega)).1.trans hkp49
  refine jputF hF hn 13 69 2 69 rfl (by decide) (by decide) rfl wd_1532 (by decide +kernel) rfl rfl (Or.inr (Or.inr (Or.inr (Or.inr ⟨_, rfl⟩)))) (by first | assumption | omega) (fun h => by cases h) ?_
  have hT50 := hS49.step (by rfl) (by decide +kernel) (by omega) hEA (by omega) haA hkA hlA hmoA hmnA
  have hS50 := hT50
  have hz50 : ((sz_50 : Nat) : Int) = sz + 50 := by omega
  clear hT50 hS49 hkd_50 hln_50 hm_50 hsz_50 hk_50 hl_50 hE_50 hmo_50 hmn_50 hmoA hmnA hEA hkA haA hszA hlA hz49 hkp49 hEE_49 ha_50
  refine jblk hF [(.aload_n 0, 1), (.bipush 80, 2)] (by decide +kernel) (pc' := 418) (lo' := [(0, (2, p))]) (st' := [(0, 80), (2, p)]) rfl ?_
  refine jnewa hF (at' := .int) 0 (by decide) rfl wd_157 (by decide +kernel) (by omega) (by omega) ⟨Nat.le_of_ble_eq_true rfl, Nat.le_of_ble_eq_true rfl⟩ ?_
  obtain ⟨kd_51, hkd_51⟩ : ∃ q : Int → Nat, q = upK kd_50 ((sz_50 : Nat) : Int) (20) := ⟨_, rfl⟩
  obtain ⟨ln_51, hln_51⟩ : ∃ q : Int → Int, q = upL ln_50 ((sz_50 : Nat) : Int) 80 := ⟨_, rfl⟩
  obtain ⟨m_51, hm_51⟩ : ∃ q : Int → Int → Int, q = newA 0 (set2 m_50 p 69 a_50) ((sz_50 : Nat) : Int) := ⟨_, rfl⟩
  obtain ⟨sz_51, hsz_51⟩ : ∃ q : Nat, q = sz_50 + 1 := ⟨_, rfl⟩
  obtain ⟨a_51, ha_51⟩ : ∃ q : Int, q = ((sz_50 : Nat) : Int) := ⟨_, rfl⟩
  rw [← hkd_51, ← hln_51, ← hm_51, ← hsz_51]
  rw [← ha_51]
  have hk_51 : kd_51 a_51 = 20 := by rw [ha_51, hkd_51]; exact if_pos rfl
  have hl_51 : ln_51 a_51 = 80 := by rw [ha_51, hln_51]; exact if_pos rfl
  have hE_51 : EXT kd_50 ln_50 sz_50 kd_51 ln_51 sz_51 := by rw [hsz_51, hkd_51, hln_51]; exact EXT.a _ _
  have hEE_51 : EXT kd ln sz kd_51 ln_51 sz_51 := (hEE_50).tr hE_51
  have hmo_51 : ∀ b j : Int, b ≠ a_51 → m_51 b j = (set2 m_50 p 69 a_50) b j := fun b j q => by rw [hm_51]; exact newA_o j (by rw [← ha_51]; exact q)
  have hmn_51 : ∀ j : Int, m_51 a_51 j = 0 := fun j => by rw [hm_51, ha_51]; exact newA_s j
  have hmoA := hmo_51
  have hmnA := hmn_51
  have hEA := hE_51
  have hkA := hk_51
  have haA := ha_51
  have hszA := hsz_51
  have hEEA := hEE_51
  have hlA := hl_51
  have hkp51 := (hEA.2 p (by omega)).1.trans hkp50
  refine jputF hF hn 13 70 2 70 rfl (by decide) (by decide) rfl wd_1533 (by decide +kernel) rfl rfl (Or.inr (Or.inr (Or.inr (Or.inr ⟨_, rfl⟩)))) (by first | assumption | omega) (fun h => by cases h) ?_
  have hT51 := hS50.step (by rfl) (by decide +kernel) (by omega) hEA (by omega) haA hkA hlA hmoA hmnA
  have hS51 := hT51
  have hz51 : ((sz_51 : Nat) : Int) = sz + 51 := by omega
  clear hT51 hS50 hkd_51 hln_51 hm_51 hsz_51 hk_51 hl_51 hE_51 hmo_51 hmn_51 hmoA hmnA hEA hkA haA hszA hlA hz50 hkp50 hEE_50 ha_51
  refine jblk hF [(.aload_n 0, 1), (.bipush 80, 2)] (by decide +kernel) (pc' := 426) (lo' := [(0, (2, p))]) (st' := [(0, 80), (2, p)]) rfl ?_
  refine jnewa hF (at' := .int) 0 (by decide) rfl wd_157 (by decide +kernel) (by omega) (by omega) ⟨Nat.le_of_ble_eq_true rfl, Nat.le_of_ble_eq_true rfl⟩ ?_
  obtain ⟨kd_52, hkd_52⟩ : ∃ q : Int → Nat, q = upK kd_51 ((sz_51 : Nat) : Int) (20) := ⟨_, rfl⟩
  obtain ⟨ln_52, hln_52⟩ : ∃ q : Int → Int, q = upL ln_51 ((sz_51 : Nat) : Int) 80 := ⟨_, rfl⟩
  obtain ⟨m_52, hm_52⟩ : ∃ q : Int → Int → Int, q = newA 0 (set2 m_51 p 70 a_51) ((sz_51 : Nat) : Int) := ⟨_, rfl⟩
  obtain ⟨sz_52, hsz_52⟩ : ∃ q : Nat, q = sz_51 + 1 := ⟨_, rfl⟩
  obtain ⟨a_52, ha_52⟩ : ∃ q : Int, q = ((sz_51 : Nat) : Int) := ⟨_, rfl⟩
  rw [← hkd_52, ← hln_52, ← hm_52, ← hsz_52]
  rw [← ha_52]
  have hk_52 : kd_52 a_52 = 20 := by rw [ha_52, hkd_52]; exact if_pos rfl
  have hl_52 : ln_52 a_52 = 80 := by rw [ha_52, hln_52]; exact if_pos rfl
  have hE_52 : EXT kd_51 ln_51 sz_51 kd_52 ln_52 sz_52 := by rw [hsz_52, hkd_52, hln_52]; exact EXT.a _ _
  have hEE_52 : EXT kd ln sz kd_52 ln_52 sz_52 := (hEE_51).tr hE_52
  have hmo_52 : ∀ b j : Int, b ≠ a_52 → m_52 b j = (set2 m_51 p 70 a_51) b j := fun b j q => by rw [hm_52]; exact newA_o j (by rw [← ha_52]; exact q)
  have hmn_52 : ∀ j : Int, m_52 a_52 j = 0 := fun j => by rw [hm_52, ha_52]; exact newA_s j
  have hmoA := hmo_52
  have hmnA := hmn_52
  have hEA := hE_52
  have hkA := hk_52
  have haA := ha_52
  have hszA := hsz_52
  have hEEA := hEE_52
  have hlA := hl_52
  have hkp52 := (hEA.2 p (by omega)).1.trans hkp51
  refine jputF hF hn 13 71 2 71 rfl (by decide) (by decide) rfl wd_1534 (by decide +kernel) rfl rfl (Or.inr (Or.inr (Or.inr (Or.inr ⟨_, rfl⟩)))) (by first | assumption | omega) (fun h => by cases h) ?_
  have hT52 := hS51.step (by rfl) (by decide +kernel) (by omega) hEA (by omega) haA hkA hlA hmoA hmnA
  have hS52 := hT52
  have hz52 : ((sz_52 : Nat) : Int) = sz + 52 := by omega
  clear hT52 hS51 hkd_52 hln_52 hm_52 hsz_52 hk_52 hl_52 hE_52 hmo_52 hmn_52 hmoA hmnA hEA hkA haA hszA hlA hz51 hkp51 hEE_51 ha_52
  refine jblk hF [(.aload_n 0, 1), (.bipush 8, 2)] (by decide +kernel) (pc' := 434) (lo' := [(0, (2, p))]) (st' := [(0, 8), (2, p)]) rfl ?_
  refine jnewa hF (at' := .int) 0 (by decide) rfl wd_157 (by decide +kernel) (by omega) (by omega) ⟨Nat.le_of_ble_eq_true rfl, Nat.le_of_ble_eq_true rfl⟩ ?_
  obtain ⟨kd_53, hkd_53⟩ : ∃ q : Int → Nat, q = upK kd_52 ((sz_52 : Nat) : Int) (20) := ⟨_, rfl⟩
  obtain ⟨ln_53, hln_53⟩ : ∃ q : Int → Int, q = upL ln_52 ((sz_52 : Nat) : Int) 8 := ⟨_, rfl⟩
  obtain ⟨m_53, hm_53⟩ : ∃ q : Int → Int → Int, q = newA 0 (set2 m_52 p 71 a_52) ((sz_52 : Nat) : Int) := ⟨_, rfl⟩
  obtain ⟨sz_53, hsz_53⟩ : ∃ q : Nat, q = sz_52 + 1 := ⟨_, rfl⟩
  obtain ⟨a_53, ha_53⟩ : ∃ q : Int, q = ((sz_52 : Nat) : Int) := ⟨_, rfl⟩
  rw [← hkd_53, ← hln_53, ← hm_53, ← hsz_53]
  rw [← ha_53]
  have hk_53 : kd_53 a_53 = 20 := by rw [ha_53, hkd_53]; exact if_pos rfl
  have hl_53 : ln_53 a_53 = 8 := by rw [ha_53, hln_53]; exact if_pos rfl
  have hE_53 : EXT kd_52 ln_52 sz_52 kd_53 ln_53 sz_53 := by rw [hsz_53, hkd_53, hln_53]; exact EXT.a _ _
  have hEE_53 : EXT kd ln sz kd_53 ln_53 sz_53 := (hEE_52).tr hE_53
  have hmo_53 : ∀ b j : Int, b ≠ a_53 → m_53 b j = (set2 m_52 p 71 a_52) b j := fun b j q => by rw [hm_53]; exact newA_o j (by rw [← ha_53]; exact q)
  have hmn_53 : ∀ j : Int, m_53 a_53 j = 0 := fun j => by rw [hm_53, ha_53]; exact newA_s j
  have hmoA := hmo_53
  have hmnA := hmn_53
  have hEA := hE_53
  have hkA := hk_53
  have haA := ha_53
  have hszA := hsz_53
  have hEEA := hEE_53
  have hlA := hl_53
  have hkp53 := (hEA.2 p (by omega)).1.trans hkp52
  refine jputF hF hn 13 73 2 73 rfl (by decide) (by decide) rfl wd_1536 (by decide +kernel) rfl rfl (Or.inr (Or.inr (Or.inr (Or.inr ⟨_, rfl⟩)))) (by first | assumption | omega) (fun h => by cases h) ?_
  have hT53 := hS52.step (by rfl) (by decide +kernel) (by omega) hEA (by omega) haA hkA hlA hmoA hmnA
  have hS53 := hT53
  have hz53 : ((sz_53 : Nat) : Int) = sz + 53 := by omega
  clear hT53 hS52 hkd_53 hln_53 hm_53 hsz_53 hk_53 hl_53 hE_53 hmo_53 hmn_53 hmoA hmnA hEA hkA haA hszA hlA hz52 hkp52 hEE_52 ha_53
  refine jblk hF [(.aload_n 0, 1), (.sipush 320, 3)] (by decide +kernel) (pc' := 443) (lo' := [(0, (2, p))]) (st' := [(0, 320), (2, p)]) rfl ?_
  refine jnewa hF (at' := .long) 1 (by decide) rfl wd_210 (by decide +kernel) (by omega) (by omega) ⟨Nat.le_of_ble_eq_true rfl, Nat.le_of_ble_eq_true rfl⟩ ?_
  obtain ⟨kd_54, hkd_54⟩ : ∃ q : Int → Nat, q = upK kd_53 ((sz_53 : Nat) : Int) (21) := ⟨_, rfl⟩
  obtain ⟨ln_54, hln_54⟩ : ∃ q : Int → Int, q = upL ln_53 ((sz_53 : Nat) : Int) 320 := ⟨_, rfl⟩
  obtain ⟨m_54, hm_54⟩ : ∃ q : Int → Int → Int, q = newA 0 (set2 m_53 p 73 a_53) ((sz_53 : Nat) : Int) := ⟨_, rfl⟩
  obtain ⟨sz_54, hsz_54⟩ : ∃ q : Nat, q = sz_53 + 1 := ⟨_, rfl⟩
  obtain ⟨a_54, ha_54⟩ : ∃ q : Int, q = ((sz_53 : Nat) : Int) := ⟨_, rfl⟩
  rw [← hkd_54, ← hln_54, ← hm_54, ← hsz_54]
  rw [← ha_54]
  have hk_54 : kd_54 a_54 = 21 := by rw [ha_54, hkd_54]; exact if_pos rfl
  have hl_54 : ln_54 a_54 = 320 := by rw [ha_54, hln_54]; exact if_pos rfl
  have hE_54 : EXT kd_53 ln_53 sz_53 kd_54 ln_54 sz_54 := by rw [hsz_54, hkd_54, hln_54]; exact EXT.a _ _
  have hEE_54 : EXT kd ln sz kd_54 ln_54 sz_54 := (hEE_53).tr hE_54
  have hmo_54 : ∀ b j : Int, b ≠ a_54 → m_54 b j = (set2 m_53 p 73 a_53) b j := fun b j q => by rw [hm_54]; exact newA_o j (by rw [← ha_54]; exact q)
  have hmn_54 : ∀ j : Int, m_54 a_54 j = 0 := fun j => by rw [hm_54, ha_54]; exact newA_s j
  have hmoA := hmo_54
  have hmnA := hmn_54
  have hEA := hE_54
  have hkA := hk_54
  have haA := ha_54
  have hszA := hsz_54
  have hEEA := hEE_54
  have hlA := hl_54
  have hkp54 := (hEA.2 p (by omega)).1.trans hkp53
  refine jputF hF hn 13 74 2 74 rfl (by decide) (by decide) rfl wd_1537 (by decide +kernel) rfl rfl (Or.inr (Or.inr (Or.inr (Or.inr ⟨_, rfl⟩)))) (by first | assumption | omega) (fun h => by cases h) ?_
  have hT54 := hS53.step (by rfl) (by decide +kernel) (by omega) hEA (by omega) haA hkA hlA hmoA hmnA
  have hS54 := hT54
  have hz54 : ((sz_54 : Nat) : Int) = sz + 54 := by omega
  clear hT54 hS53 hkd_54 hln_54 hm_54 hsz_54 hk_54 hl_54 hE_54 hmo_54 hmn_54 hmoA hmnA hEA hkA haA hszA hlA hz53 hkp53 hEE_53 ha_54
  refine jblk hF [(.aload_n 0, 1), (.bipush 40, 2)] (by decide +kernel) (pc' := 451) (lo' := [(0, (2, p))]) (st' := [(0, 40), (2, p)]) rfl ?_
  refine jnewa hF (at' := .int) 0 (by decide) rfl wd_157 (by decide +kernel) (by omega) (by omega) ⟨Nat.le_of_ble_eq_true rfl, Nat.le_of_ble_eq_true rfl⟩ ?_
  obtain ⟨kd_55, hkd_55⟩ : ∃ q : Int → Nat, q = upK kd_54 ((sz_54 : Nat) : Int) (20) := ⟨_, rfl⟩
  obtain ⟨ln_55, hln_55⟩ : ∃ q : Int → Int, q = upL ln_54 ((sz_54 : Nat) : Int) 40 := ⟨_, rfl⟩
  obtain ⟨m_55, hm_55⟩ : ∃ q : Int → Int → Int, q = newA 0 (set2 m_54 p 74 a_54) ((sz_54 : Nat) : Int) := ⟨_, rfl⟩
  obtain ⟨sz_55, hsz_55⟩ : ∃ q : Nat, q = sz_54 + 1 := ⟨_, rfl⟩
  obtain ⟨a_55, ha_55⟩ : ∃ q : Int, q = ((sz_54 : Nat) : Int) := ⟨_, rfl⟩
  rw [← hkd_55, ← hln_55, ← hm_55, ← hsz_55]
  rw [← ha_55]
  have hk_55 : kd_55 a_55 = 20 := by rw [ha_55, hkd_55]; exact if_pos rfl
  have hl_55 : ln_55 a_55 = 40 := by rw [ha_55, hln_55]; exact if_pos rfl
  have hE_55 : EXT kd_54 ln_54 sz_54 kd_55 ln_55 sz_55 := by rw [hsz_55, hkd_55, hln_55]; exact EXT.a _ _
  have hEE_55 : EXT kd ln sz kd_55 ln_55 sz_55 := (hEE_54).tr hE_55
  have hmo_55 : ∀ b j : Int, b ≠ a_55 → m_55 b j = (set2 m_54 p 74 a_54) b j := fun b j q => by rw [hm_55]; exact newA_o j (by rw [← ha_55]; exact q)
  have hmn_55 : ∀ j : Int, m_55 a_55 j = 0 := fun j => by rw [hm_55, ha_55]; exact newA_s j
  have hmoA := hmo_55
  have hmnA := hmn_55
  have hEA := hE_55
  have hkA := hk_55
  have haA := ha_55
  have hszA := hsz_55
  have hEEA := hEE_55
  have hlA := hl_55
  have hkp55 := (hEA.2 p (by omega)).1.trans hkp54
  refine jputF hF hn 13 75 2 75 rfl (by decide) (by decide) rfl wd_1538 (by decide +kernel) rfl rfl (Or.inr (Or.inr (Or.inr (Or.inr ⟨_, rfl⟩)))) (by first | assumption | omega) (fun h => by cases h) ?_
  have hT55 := hS54.step (by rfl) (by decide +kernel) (by omega) hEA (by omega) haA hkA hlA hmoA hmnA
  have hS55 := hT55
  have hz55 : ((sz_55 : Nat) : Int) = sz + 55 := by omega
  clear hT55 hS54 hkd_55 hln_55 hm_55 hsz_55 hk_55 hl_55 hE_55 hmo_55 hmn_55 hmoA hmnA hEA hkA haA hszA hlA hz54 hkp54 hEE_54 ha_55
  refine jblk hF [(.aload_n 0, 1), (.bipush 40, 2)] (by decide +kernel) (pc' := 459) (lo' := [(0, (2, p))]) (st' := [(0, 40), (2, p)]) rfl ?_
  refine jnewa hF (at' := .int) 0 (by decide) rfl wd_157 (by decide +kernel) (by omega) (by omega) ⟨Nat.le_of_ble_eq_true rfl, Nat.le_of_ble_eq_true rfl⟩ ?_
  obtain ⟨kd_56, hkd_56⟩ : ∃ q : Int → Nat, q = upK kd_55 ((sz_55 : Nat) : Int) (20) := ⟨_, rfl⟩
  obtain ⟨ln_56, hln_56⟩ : ∃ q : Int → Int, q = upL ln_55 ((sz_55 : Nat) : Int) 40 := ⟨_, rfl⟩
  obtain ⟨m_56, hm_56⟩ : ∃ q : Int → Int → Int, q = newA 0 (set2 m_55 p 75 a_55) ((sz_55 : Nat) : Int) := ⟨_, rfl⟩
  obtain ⟨sz_56, hsz_56⟩ : ∃ q : Nat, q = sz_55 + 1 := ⟨_, rfl⟩
  obtain ⟨a_56, ha_56⟩ : ∃ q : Int, q = ((sz_55 : Nat) : Int) := ⟨_, rfl⟩
  rw [← hkd_56, ← hln_56, ← hm_56, ← hsz_56]
  rw [← ha_56]
  have hk_56 : kd_56 a_56 = 20 := by rw [ha_56, hkd_56]; exact if_pos rfl
  have hl_56 : ln_56 a_56 = 40 := by rw [ha_56, hln_56]; exact if_pos rfl
  have hE_56 : EXT kd_55 ln_55 sz_55 kd_56 ln_56 sz_56 := by rw [hsz_56, hkd_56, hln_56]; exact EXT.a _ _
  have hEE_56 : EXT kd ln sz kd_56 ln_56 sz_56 := (hEE_55).tr hE_56
  have hmo_56 : ∀ b j : Int, b ≠ a_56 → m_56 b j = (set2 m_55 p 75 a_55) b j := fun b j q => by rw [hm_56]; exact newA_o j (by rw [← ha_56]; exact q)
  have hmn_56 : ∀ j : Int, m_56 a_56 j = 0 := fun j => by rw [hm_56, ha_56]; exact newA_s j
  have hmoA := hmo_56
  have hmnA := hmn_56
  have hEA := hE_56
  have hkA := hk_56
  have haA := ha_56
  have hszA := hsz_56
  have hEEA := hEE_56
  have hlA := hl_56
  have hkp56 := (hEA.2 p (by omega)).1.trans hkp55
  refine jputF hF hn 13 76 2 76 rfl (by decide) (by decide) rfl wd_1539 (by decide +kernel) rfl rfl (Or.inr (Or.inr (Or.inr (Or.inr ⟨_, rfl⟩)))) (by first | assumption | omega) (fun h => by cases h) ?_
  have hT56 := hS55.step (by rfl) (by decide +kernel) (by omega) hEA (by omega) haA hkA hlA hmoA hmnA
  have hS56 := hT56
  have hz56 : ((sz_56 : Nat) : Int) = sz + 56 := by omega
  clear hT56 hS55 hkd_56 hln_56 hm_56 hsz_56 hk_56 hl_56 hE_56 hmo_56 hmn_56 hmoA hmnA hEA hkA haA hszA hlA hz55 hkp55 hEE_55 ha_56
  refine jblk hF [(.aload_n 0, 1), (.bipush 40, 2)] (by decide +kernel) (pc' := 467) (lo' := [(0, (2, p))]) (st' := [(0, 40), (2, p)]) rfl ?_
  refine jnewa hF (at' := .long) 1 (by decide) rfl wd_210 (by decide +kernel) (by omega) (by omega) ⟨Nat.le_of_ble_eq_true rfl, Nat.le_of_ble_eq_true rfl⟩ ?_
  obtain ⟨kd_57, hkd_57⟩ : ∃ q : Int → Nat, q = upK kd_56 ((sz_56 : Nat) : Int) (21) := ⟨_, rfl⟩
  obtain ⟨ln_57, hln_57⟩ : ∃ q : Int → Int, q = upL ln_56 ((sz_56 : Nat) : Int) 40 := ⟨_, rfl⟩
  obtain ⟨m_57, hm_57⟩ : ∃ q : Int → Int → Int, q = newA 0 (set2 m_56 p 76 a_56) ((sz_56 : Nat) : Int) := ⟨_, rfl⟩
  obtain ⟨sz_57, hsz_57⟩ : ∃ q : Nat, q = sz_56 + 1 := ⟨_, rfl⟩
  obtain ⟨a_57, ha_57⟩ : ∃ q : Int, q = ((sz_56 : Nat) : Int) := ⟨_, rfl⟩
  rw [← hkd_57, ← hln_57, ← hm_57, ← hsz_57]
  rw [← ha_57]
  have hk_57 : kd_57 a_57 = 21 := by rw [ha_57, hkd_57]; exact if_pos rfl
  have hl_57 : ln_57 a_57 = 40 := by rw [ha_57, hln_57]; exact if_pos rfl
  have hE_57 : EXT kd_56 ln_56 sz_56 kd_57 ln_57 sz_57 := by rw [hsz_57, hkd_57, hln_57]; exact EXT.a _ _
  have hEE_57 : EXT kd ln sz kd_57 ln_57 sz_57 := (hEE_56).tr hE_57
  have hmo_57 : ∀ b j : Int, b ≠ a_57 → m_57 b j = (set2 m_56 p 76 a_56) b j := fun b j q => by rw [hm_57]; exact newA_o j (by rw [← ha_57]; exact q)
  have hmn_57 : ∀ j : Int, m_57 a_57 j = 0 := fun j => by rw [hm_57, ha_57]; exact newA_s j
  have hmoA := hmo_57
  have hmnA := hmn_57
  have hEA := hE_57
  have hkA := hk_57
  have haA := ha_57
  have hszA := hsz_57
  have hEEA := hEE_57
  have hlA := hl_57
  have hkp57 := (hEA.2 p (by omega)).1.trans hkp56
  refine jputF hF hn 13 77 2 77 rfl (by decide) (by decide) rfl wd_1540 (by decide +kernel) rfl rfl (Or.inr (Or.inr (Or.inr (Or.inr ⟨_, rfl⟩)))) (by first | assumption | omega) (fun h => by cases h) ?_
  have hT57 := hS56.step (by rfl) (by decide +kernel) (by omega) hEA (by omega) haA hkA hlA hmoA hmnA
  have hS57 := hT57
  have hz57 : ((sz_57 : Nat) : Int) = sz + 57 := by omega
  clear hT57 hS56 hkd_57 hln_57 hm_57 hsz_57 hk_57 hl_57 hE_57 hmo_57 hmn_57 hmoA hmnA hEA hkA haA hszA hlA hz56 hkp56 hEE_56 ha_57
  refine jblk hF [(.aload_n 0, 1), (.bipush 40, 2)] (by decide +kernel) (pc' := 475) (lo' := [(0, (2, p))]) (st' := [(0, 40), (2, p)]) rfl ?_
  refine jnewa hF (at' := .long) 1 (by decide) rfl wd_210 (by decide +kernel) (by omega) (by omega) ⟨Nat.le_of_ble_eq_true rfl, Nat.le_of_ble_eq_true rfl⟩ ?_
  obtain ⟨kd_58, hkd_58⟩ : ∃ q : Int → Nat, q = upK kd_57 ((sz_57 : Nat) : Int) (21) := ⟨_, rfl⟩
  obtain ⟨ln_58, hln_58⟩ : ∃ q : Int → Int, q = upL ln_57 ((sz_57 : Nat) : Int) 40 := ⟨_, rfl⟩
  obtain ⟨m_58, hm_58⟩ : ∃ q : Int → Int → Int, q = newA 0 (set2 m_57 p 77 a_57) ((sz_57 : Nat) : Int) := ⟨_, rfl⟩
  obtain ⟨sz_58, hsz_58⟩ : ∃ q : Nat, q = sz_57 + 1 := ⟨_, rfl⟩
  obtain ⟨a_58, ha_58⟩ : ∃ q : Int, q = ((sz_57 : Nat) : Int) := ⟨_, rfl⟩
  rw [← hkd_58, ← hln_58, ← hm_58, ← hsz_58]
  rw [← ha_58]
  have hk_58 : kd_58 a_58 = 21 := by rw [ha_58, hkd_58]; exact if_pos rfl
  have hl_58 : ln_58 a_58 = 40 := by rw [ha_58, hln_58]; exact if_pos rfl
  have hE_58 : EXT kd_57 ln_57 sz_57 kd_58 ln_58 sz_58 := by rw [hsz_58, hkd_58, hln_58]; exact EXT.a _ _
  have hEE_58 : EXT kd ln sz kd_58 ln_58 sz_58 := (hEE_57).tr hE_58
  have hmo_58 : ∀ b j : Int, b ≠ a_58 → m_58 b j = (set2 m_57 p 77 a_57) b j := fun b j q => by rw [hm_58]; exact newA_o j (by rw [← ha_58]; exact q)
  have hmn_58 : ∀ j : Int, m_58 a_58 j = 0 := fun j => by rw [hm_58, ha_58]; exact newA_s j
  have hmoA := hmo_58
  have hmnA := hmn_58
  have hEA := hE_58
  have hkA := hk_58
  have haA := ha_58
  have hszA := hsz_58
  have hEEA := hEE_58
  have hlA := hl_58
  have hkp58 := (hEA.2 p (by omega)).1.trans hkp57
  refine jputF hF hn 13 78 2 78 rfl (by decide) (by decide) rfl wd_1541 (by decide +kernel) rfl rfl (Or.inr (Or.inr (Or.inr (Or.inr ⟨_, rfl⟩)))) (by first | assumption | omega) (fun h => by cases h) ?_
  have hT58 := hS57.step (by rfl) (by decide +kernel) (by omega) hEA (by omega) haA hkA hlA hmoA hmnA
  have hS58 := hT58
  have hz58 : ((sz_58 : Nat) : Int) = sz + 58 := by omega
  clear hT58 hS57 hkd_58 hln_58 hm_58 hsz_58 hk_58 hl_58 hE_58 hmo_58 hmn_58 hmoA hmnA hEA hkA haA hszA hlA hz57 hkp57 hEE_57 ha_58
  refine jblk hF [(.aload_n 0, 1), (.bipush 8, 2)] (by decide +kernel) (pc' := 483) (lo' := [(0, (2, p))]) (st' := [(0, 8), (2, p)]) rfl ?_
  refine jnewa hF (at' := .int) 0 (by decide) rfl wd_157 (by decide +kernel) (by omega) (by omega) ⟨Nat.le_of_ble_eq_true rfl, Nat.le_of_ble_eq_true rfl⟩ ?_
  obtain ⟨kd_59, hkd_59⟩ : ∃ q : Int → Nat, q = upK kd_58 ((sz_58 : Nat) : Int) (20) := ⟨_, rfl⟩
  obtain ⟨ln_59, hln_59⟩ : ∃ q : Int → Int, q = upL ln_58 ((sz_58 : Nat) : Int) 8 := ⟨_, rfl⟩
  obtain ⟨m_59, hm_59⟩ : ∃ q : Int → Int → Int, q = newA 0 (set2 m_58 p 78 a_58) ((sz_58 : Nat) : Int) := ⟨_, rfl⟩
  obtain ⟨sz_59, hsz_59⟩ : ∃ q : Nat, q = sz_58 + 1 := ⟨_, rfl⟩
  obtain ⟨a_59, ha_59⟩ : ∃ q : Int, q = ((sz_58 : Nat) : Int) := ⟨_, rfl⟩
  rw [← hkd_59, ← hln_59, ← hm_59, ← hsz_59]
  rw [← ha_59]
  have hk_59 : kd_59 a_59 = 20 := by rw [ha_59, hkd_59]; exact if_pos rfl
  have hl_59 : ln_59 a_59 = 8 := by rw [ha_59, hln_59]; exact if_pos rfl
  have hE_59 : EXT kd_58 ln_58 sz_58 kd_59 ln_59 sz_59 := by rw [hsz_59, hkd_59, hln_59]; exact EXT.a _ _
  have hEE_59 : EXT kd ln sz kd_59 ln_59 sz_59 := (hEE_58).tr hE_59
  have hmo_59 : ∀ b j : Int, b ≠ a_59 → m_59 b j = (set2 m_58 p 78 a_58) b j := fun b j q => by rw [hm_59]; exact newA_o j (by rw [← ha_59]; exact q)
  have hmn_59 : ∀ j : Int, m_59 a_59 j = 0 := fun j => by rw [hm_59, ha_59]; exact newA_s j
  have hmoA := hmo_59
  have hmnA := hmn_59
  have hEA := hE_59
  have hkA := hk_59
  have haA := ha_59
  have hszA := hsz_59
  have hEEA := hEE_59
  have hlA := hl_59
  have hkp59 := (hEA.2 p (by omega)).1.trans hkp58
  refine jputF hF hn 13 81 2 81 rfl (by decide) (by decide) rfl wd_1544 (by decide +kernel) rfl rfl (Or.inr (Or.inr (Or.inr (Or.inr ⟨_, rfl⟩)))) (by first | assumption | omega) (fun h => by cases h) ?_
  have hT59 := hS58.step (by rfl) (by decide +kernel) (by omega) hEA (by omega) haA hkA hlA hmoA hmnA
  have hS59 := hT59
  have hz59 : ((sz_59 : Nat) : Int) = sz + 59 := by omega
  clear hT59 hS58 hkd_59 hln_59 hm_59 hsz_59 hk_59 hl_59 hE_59 hmo_59 hmn_59 hmoA hmnA hEA hkA haA hszA hlA hz58 hkp58 hEE_58 ha_59
  refine jblk hF [(.aload_n 0, 1), (.sipush 320, 3)] (by decide +kernel) (pc' := 492) (lo' := [(0, (2, p))]) (st' := [(0, 320), (2, p)]) rfl ?_
  refine jnewa hF (at' := .long) 1 (by decide) rfl wd_210 (by decide +kernel) (by omega) (by omega) ⟨Nat.le_of_ble_eq_true rfl, Nat.le_of_ble_eq_true rfl⟩ ?_
  obtain ⟨kd_60, hkd_60⟩ : ∃ q : Int → Nat, q = upK kd_59 ((sz_59 : Nat) : Int) (21) := ⟨_, rfl⟩
  obtain ⟨ln_60, hln_60⟩ : ∃ q : Int → Int, q = upL ln_59 ((sz_59 : Nat) : Int) 320 := ⟨_, rfl⟩
  obtain ⟨m_60, hm_60⟩ : ∃ q : Int → Int → Int, q = newA 0 (set2 m_59 p 81 a_59) ((sz_59 : Nat) : Int) := ⟨_, rfl⟩
  obtain ⟨sz_60, hsz_60⟩ : ∃ q : Nat, q = sz_59 + 1 := ⟨_, rfl⟩
  obtain ⟨a_60, ha_60⟩ : ∃ q : Int, q = ((sz_59 : Nat) : Int) := ⟨_, rfl⟩
  rw [← hkd_60, ← hln_60, ← hm_60, ← hsz_60]
  rw [← ha_60]
  have hk_60 : kd_60 a_60 = 21 := by rw [ha_60, hkd_60]; exact if_pos rfl
  have hl_60 : ln_60 a_60 = 320 := by rw [ha_60, hln_60]; exact if_pos rfl
  have hE_60 : EXT kd_59 ln_59 sz_59 kd_60 ln_60 sz_60 := by rw [hsz_60, hkd_60, hln_60]; exact EXT.a _ _
  have hEE_60 : EXT kd ln sz kd_60 ln_60 sz_60 := (hEE_59).tr hE_60
  have hmo_60 : ∀ b j : Int, b ≠ a_60 → m_60 b j = (set2 m_59 p 81 a_59) b j := fun b j q => by rw [hm_60]; exact newA_o j (by rw [← ha_60]; exact q)
  have hmn_60 : ∀ j : Int, m_60 a_60 j = 0 := fun j => by rw [hm_60, ha_60]; exact newA_s j
  have hmoA := hmo_60
  have hmnA := hmn_60
  have hEA := hE_60
  have hkA := hk_60
  have haA := ha_60
  have hszA := hsz_60
  have hEEA := hEE_60
  have hlA := hl_60
  have hkp60 := (hEA.2 p (by omega)).1.trans hkp59
  refine jputF hF hn 13 82 2 82 rfl (by decide) (by decide) rfl wd_1545 (by decide +kernel) rfl rfl (Or.inr (Or.inr (Or.inr (Or.inr ⟨_, rfl⟩)))) (by first | assumption | omega) (fun h => by cases h) ?_
  have hT60 := hS59.step (by rfl) (by decide +kernel) (by omega) hEA (by omega) haA hkA hlA hmoA hmnA
  have hS60 := hT60
  have hz60 : ((sz_60 : Nat) : Int) = sz + 60 := by omega
  clear hT60 hS59 hkd_60 hln_60 hm_60 hsz_60 hk_60 hl_60 hE_60 hmo_60 hmn_60 hmoA hmnA hEA hkA haA hszA hlA hz59 hkp59 hEE_59 ha_60
  refine jblk hF [(.aload_n 0, 1), (.sipush 320, 3)] (by decide +kernel) (pc' := 501) (lo' := [(0, (2, p))]) (st' := [(0, 320), (2, p)]) rfl ?_
  refine jnewa hF (at' := .boolean) 2 (by decide) rfl wd_1734 (by decide +kernel) (by omega) (by omega) ⟨Nat.le_of_ble_eq_true rfl, Nat.le_of_ble_eq_true rfl⟩ ?_
  obtain ⟨kd_61, hkd_61⟩ : ∃ q : Int → Nat, q = upK kd_60 ((sz_60 : Nat) : Int) (22) := ⟨_, rfl⟩
  obtain ⟨ln_61, hln_61⟩ : ∃ q : Int → Int, q = upL ln_60 ((sz_60 : Nat) : Int) 320 := ⟨_, rfl⟩
  obtain ⟨m_61, hm_61⟩ : ∃ q : Int → Int → Int, q = newA 0 (set2 m_60 p 82 a_60) ((sz_60 : Nat) : Int) := ⟨_, rfl⟩
  obtain ⟨sz_61, hsz_61⟩ : ∃ q : Nat, q = sz_60 + 1 := ⟨_, rfl⟩
  obtain ⟨a_61, ha_61⟩ : ∃ q : Int, q = ((sz_60 : Nat) : Int) := ⟨_, rfl⟩
  rw [← hkd_61, ← hln_61, ← hm_61, ← hsz_61]
  rw [← ha_61]
  have hk_61 : kd_61 a_61 = 22 := by rw [ha_61, hkd_61]; exact if_pos rfl
  have hl_61 : ln_61 a_61 = 320 := by rw [ha_61, hln_61]; exact if_pos rfl
  have hE_61 : EXT kd_60 ln_60 sz_60 kd_61 ln_61 sz_61 := by rw [hsz_61, hkd_61, hln_61]; exact EXT.a _ _
  have hEE_61 : EXT kd ln sz kd_61 ln_61 sz_61 := (hEE_60).tr hE_61
  have hmo_61 : ∀ b j : Int, b ≠ a_61 → m_61 b j = (set2 m_60 p 82 a_60) b j := fun b j q => by rw [hm_61]; exact newA_o j (by rw [← ha_61]; exact q)
  have hmn_61 : ∀ j : Int, m_61 a_61 j = 0 := fun j => by rw [hm_61, ha_61]; exact newA_s j
  have hmoA := hmo_61
  have hmnA := hmn_61
  have hEA := hE_61
  have hkA := hk_61
  have haA := ha_61
  have hszA := hsz_61
  have hEEA := hEE_61
  have hlA := hl_61
  have hkp61 := (hEA.2 p (by omega)).1.trans hkp60
  refine jputF hF hn 13 83 2 83 rfl (by decide) (by decide) rfl wd_1546 (by decide +kernel) rfl rfl (Or.inr (Or.inr (Or.inr (Or.inr ⟨_, rfl⟩)))) (by first | assumption | omega) (fun h => by cases h) ?_
  have hT61 := hS60.step (by rfl) (by decide +kernel) (by omega) hEA (by omega) haA hkA hlA hmoA hmnA
  have hS61 := hT61
  have hz61 : ((sz_61 : Nat) : Int) = sz + 61 := by omega
  clear hT61 hS60 hkd_61 hln_61 hm_61 hsz_61 hk_61 hl_61 hE_61 hmo_61 hmn_61 hmoA hmnA hEA hkA haA hszA hlA hz60 hkp60 hEE_60 ha_61
  refine jblk hF [(.aload_n 0, 1), (.bipush 8, 2)] (by decide +kernel) (pc' := 509) (lo' := [(0, (2, p))]) (st' := [(0, 8), (2, p)]) rfl ?_
  refine jnewa hF (at' := .int) 0 (by decide) rfl wd_157 (by decide +kernel) (by omega) (by omega) ⟨Nat.le_of_ble_eq_true rfl, Nat.le_of_ble_eq_true rfl⟩ ?_
  obtain ⟨kd_62, hkd_62⟩ : ∃ q : Int → Nat, q = upK kd_61 ((sz_61 : Nat) : Int) (20) := ⟨_, rfl⟩
  obtain ⟨ln_62, hln_62⟩ : ∃ q : Int → Int, q = upL ln_61 ((sz_61 : Nat) : Int) 8 := ⟨_, rfl⟩
  obtain ⟨m_62, hm_62⟩ : ∃ q : Int → Int → Int, q = newA 0 (set2 m_61 p 83 a_61) ((sz_61 : Nat) : Int) := ⟨_, rfl⟩
  obtain ⟨sz_62, hsz_62⟩ : ∃ q : Nat, q = sz_61 + 1 := ⟨_, rfl⟩
  obtain ⟨a_62, ha_62⟩ : ∃ q : Int, q = ((sz_61 : Nat) : Int) := ⟨_, rfl⟩
  rw [← hkd_62, ← hln_62, ← hm_62, ← hsz_62]
  rw [← ha_62]
  have hk_62 : kd_62 a_62 = 20 := by rw [ha_62, hkd_62]; exact if_pos rfl
  have hl_62 : ln_62 a_62 = 8 := by rw [ha_62, hln_62]; exact if_pos rfl
  have hE_62 : EXT kd_61 ln_61 sz_61 kd_62 ln_62 sz_62 := by rw [hsz_62, hkd_62, hln_62]; exact EXT.a _ _
  have hEE_62 : EXT kd ln sz kd_62 ln_62 sz_62 := (hEE_61).tr hE_62
  have hmo_62 : ∀ b j : Int, b ≠ a_62 → m_62 b j = (set2 m_61 p 83 a_61) b j := fun b j q => by rw [hm_62]; exact newA_o j (by rw [← ha_62]; exact q)
  have hmn_62 : ∀ j : Int, m_62 a_62 j = 0 := fun j => by rw [hm_62, ha_62]; exact newA_s j
  have hmoA := hmo_62
  have hmnA := hmn_62
  have hEA := hE_62
  have hkA := hk_62
  have haA := ha_62
  have hszA := hsz_62
  have hEEA := hEE_62
  have hlA := hl_62
  have hkp62 := (hEA.2 p (by omega)).1.trans hkp61
  refine jputF hF hn 13 85 2 85 rfl (by decide) (by decide) rfl wd_1548 (by decide +kernel) rfl rfl (Or.inr (Or.inr (Or.inr (Or.inr ⟨_, rfl⟩)))) (by first | assumption | omega) (fun h => by cases h) ?_
  have hT62 := hS61.step (by rfl) (by decide +kernel) (by omega) hEA (by omega) haA hkA hlA hmoA hmnA
  have hS62 := hT62
  have hz62 : ((sz_62 : Nat) : Int) = sz + 62 := by omega
  clear hT62 hS61 hkd_62 hln_62 hm_62 hsz_62 hk_62 hl_62 hE_62 hmo_62 hmn_62 hmoA hmnA hEA hkA haA hszA hlA hz61 hkp61 hEE_61 ha_62
  refine jblk hF [(.aload_n 0, 1), (.bipush 8, 2)] (by decide +kernel) (pc' := 517) (lo' := [(0, (2, p))]) (st' := [(0, 8), (2, p)]) rfl ?_
  refine jnewa hF (at' := .boolean) 2 (by decide) rfl wd_1734 (by decide +kernel) (by omega) (by omega) ⟨Nat.le_of_ble_eq_true rfl, Nat.le_of_ble_eq_true rfl⟩ ?_
  obtain ⟨kd_63, hkd_63⟩ : ∃ q : Int → Nat, q = upK kd_62 ((sz_62 : Nat) : Int) (22) := ⟨_, rfl⟩
  obtain ⟨ln_63, hln_63⟩ : ∃ q : Int → Int, q = upL ln_62 ((sz_62 : Nat) : Int) 8 := ⟨_, rfl⟩
  obtain ⟨m_63, hm_63⟩ : ∃ q : Int → Int → Int, q = newA 0 (set2 m_62 p 85 a_62) ((sz_62 : Nat) : Int) := ⟨_, rfl⟩
  obtain ⟨sz_63, hsz_63⟩ : ∃ q : Nat, q = sz_62 + 1 := ⟨_, rfl⟩
  obtain ⟨a_63, ha_63⟩ : ∃ q : Int, q = ((sz_62 : Nat) : Int) := ⟨_, rfl⟩
  rw [← hkd_63, ← hln_63, ← hm_63, ← hsz_63]
  rw [← ha_63]
  have hk_63 : kd_63 a_63 = 22 := by rw [ha_63, hkd_63]; exact if_pos rfl
  have hl_63 : ln_63 a_63 = 8 := by rw [ha_63, hln_63]; exact if_pos rfl
  have hE_63 : EXT kd_62 ln_62 sz_62 kd_63 ln_63 sz_63 := by rw [hsz_63, hkd_63, hln_63]; exact EXT.a _ _
  have hEE_63 : EXT kd ln sz kd_63 ln_63 sz_63 := (hEE_62).tr hE_63
  have hmo_63 : ∀ b j : Int, b ≠ a_63 → m_63 b j = (set2 m_62 p 85 a_62) b j := fun b j q => by rw [hm_63]; exact newA_o j (by rw [← ha_63]; exact q)
  have hmn_63 : ∀ j : Int, m_63 a_63 j = 0 := fun j => by rw [hm_63, ha_63]; exact newA_s j
  have hmoA := hmo_63
  have hmnA := hmn_63
  have hEA := hE_63
  have hkA := hk_63
  have haA := ha_63
  have hszA := hsz_63
  have hEEA := hEE_63
  have hlA := hl_63
  have hkp63 := (hEA.2 p (by omega)).1.trans hkp62
  refine jputF hF hn 13 86 2 86 rfl (by decide) (by decide) rfl wd_1549 (by decide +kernel) rfl rfl (Or.inr (Or.inr (Or.inr (Or.inr ⟨_, rfl⟩)))) (by first | assumption | omega) (fun h => by cases h) ?_
  have hT63 := hS62.step (by rfl) (by decide +kernel) (by omega) hEA (by omega) haA hkA hlA hmoA hmnA
  have hS63 := hT63
  have hz63 : ((sz_63 : Nat) : Int) = sz + 63 := by omega
  clear hT63 hS62 hkd_63 hln_63 hm_63 hsz_63 hk_63 hl_63 hE_63 hmo_63 hmn_63 hmoA hmnA hEA hkA haA hszA hlA hz62 hkp62 hEE_62 ha_63
  refine jblk hF [(.aload_n 0, 1), (.sipush 320, 3)] (by decide +kernel) (pc' := 526) (lo' := [(0, (2, p))]) (st' := [(0, 320), (2, p)]) rfl ?_
  refine jnewa hF (at' := .long) 1 (by decide) rfl wd_210 (by decide +kernel) (by omega) (by omega) ⟨Nat.le_of_ble_eq_true rfl, Nat.le_of_ble_eq_true rfl⟩ ?_
  obtain ⟨kd_64, hkd_64⟩ : ∃ q : Int → Nat, q = upK kd_63 ((sz_63 : Nat) : Int) (21) := ⟨_, rfl⟩
  obtain ⟨ln_64, hln_64⟩ : ∃ q : Int → Int, q = upL ln_63 ((sz_63 : Nat) : Int) 320 := ⟨_, rfl⟩
  obtain ⟨m_64, hm_64⟩ : ∃ q : Int → Int → Int, q = newA 0 (set2 m_63 p 86 a_63) ((sz_63 : Nat) : Int) := ⟨_, rfl⟩
  obtain ⟨sz_64, hsz_64⟩ : ∃ q : Nat, q = sz_63 + 1 := ⟨_, rfl⟩
  obtain ⟨a_64, ha_64⟩ : ∃ q : Int, q = ((sz_63 : Nat) : Int) := ⟨_, rfl⟩
  rw [← hkd_64, ← hln_64, ← hm_64, ← hsz_64]
  rw [← ha_64]
  have hk_64 : kd_64 a_64 = 21 := by rw [ha_64, hkd_64]; exact if_pos rfl
  have hl_64 : ln_64 a_64 = 320 := by rw [ha_64, hln_64]; exact if_pos rfl
  have hE_64 : EXT kd_63 ln_63 sz_63 kd_64 ln_64 sz_64 := by rw [hsz_64, hkd_64, hln_64]; exact EXT.a _ _
  have hEE_64 : EXT kd ln sz kd_64 ln_64 sz_64 := (hEE_63).tr hE_64
  have hmo_64 : ∀ b j : Int, b ≠ a_64 → m_64 b j = (set2 m_63 p 86 a_63) b j := fun b j q => by rw [hm_64]; exact newA_o j (by rw [← ha_64]; exact q)
  have hmn_64 : ∀ j : Int, m_64 a_64 j = 0 := fun j => by rw [hm_64, ha_64]; exact newA_s j
  have hmoA := hmo_64
  have hmnA := hmn_64
  have hEA := hE_64
  have hkA := hk_64
  have haA := ha_64
  have hszA := hsz_64
  have hEEA := hEE_64
  have hlA := hl_64
  have hkp64 := (hEA.2 p (by omega)).1.trans hkp63
  refine jputF hF hn 13 87 2 87 rfl (by decide) (by decide) rfl wd_1550 (by decide +kernel) rfl rfl (Or.inr (Or.inr (Or.inr (Or.inr ⟨_, rfl⟩)))) (by first | assumption | omega) (fun h => by cases h) ?_
  have hT64 := hS63.step (by rfl) (by decide +kernel) (by omega) hEA (by omega) haA hkA hlA hmoA hmnA
  have hS64 := hT64
  have hz64 : ((sz_64 : Nat) : Int) = sz + 64 := by omega
  clear hT64 hS63 hkd_64 hln_64 hm_64 hsz_64 hk_64 hl_64 hE_64 hmo_64 hmn_64 hmoA hmnA hEA hkA haA hszA hlA hz63 hkp63 hEE_63 ha_64
  refine jblk hF [(.aload_n 0, 1), (.bipush 10, 2)] (by decide +kernel) (pc' := 534) (lo' := [(0, (2, p))]) (st' := [(0, 10), (2, p)]) rfl ?_
  refine jput hF 13 89 0 89 rfl (by decide) (by decide) rfl wd_1552 (by decide +kernel) rfl (Or.inl rfl) (by first | assumption | omega) (fun h => by cases h) ?_
  have hS64 := hS64.put (by omega) 89 10 (by decide +kernel)
  refine jwiden (k := 64) (n := 14491) (Nat.le_of_ble_eq_true rfl) (Nat.le_of_ble_eq_true rfl) ?_
  refine jvret hF hr (by decide +kernel) ?_
  exact ⟨rfl, hEE_64, (by exact ⟨by omega, by rw [ha_1]; exact hS64⟩)⟩
end
