section
/-! the house is made: cells 3 to 34 -/
def HKL : List (Nat × Int) := [(13, 0), (20, 64), (12, 0), (20, 160), (7, 0), (12, 0), (20, 0), (4, 0), (21, 40), (21, 200), (21, 200), (8, 0), (21, 40), (20, 4), (20, 4), (21, 4), (20, 4), (20, 4), (21, 4), (6, 0), (21, 40), (21, 280), (20, 40), (21, 5), (1, 0), (1, 0), (1, 0), (1, 0), (1, 0), (1, 0), (1, 0), (1, 0)]
def kdH (a : Int) : Nat := ((HKL[(a - 3).toNat]?).getD (0, 0)).1
def lnH (a : Int) : Int := ((HKL[(a - 3).toNat]?).getD (0, 0)).2
def HSJ (m0 : Int → Int → Int) (kd : Int → Nat) (ln : Int → Int) (m : Int → Int → Int) (sz : Nat) (n : Int) (L : List (Int × Int × Int)) : Prop :=
  ((sz : Nat) : Int) = n ∧ (∀ a : Int, 3 ≤ a → a < n → kd a = kdH a ∧ (20 ≤ kdH a → ln a = lnH a)) ∧ (∀ w ∈ L, m w.1 w.2.1 = w.2.2) ∧ (∀ b j : Int, b < 3 → m b j = m0 b j) ∧ (4 < n → ∀ j : Int, 0 ≤ j → j < 64 → m 4 j = -1) ∧ (6 < n → ∀ j : Int, m 6 j = 0)
/-- a group of cells: an object, rows behind it, its place in the house -/
theorem HSJ.grp {m0 m M : Int → Int → Int} {kd kd2 : Int → Nat} {ln ln2 : Int → Int} {sz sz2 : Nat} {n n' k : Int} {L N L' : List (Int × Int × Int)} (h : HSJ m0 kd ln m sz n L) (hn : 5 ≤ n) (hE : EXT kd ln sz kd2 ln2 sz2) (hs : ((sz2 : Nat) : Int) = n') (hK : ∀ a : Int, n ≤ a → a < n' → kd2 a = kdH a ∧ (20 ≤ kdH a → ln2 a = lnH a)) (hM : ∀ b j : Int, b < n → ¬ (b = 3 ∧ j = k) → M b j = m b j) (hL : (L.all fun w => decide (w.1 < n ∧ ¬ (w.1 = 3 ∧ w.2.1 = k))) = true) (hN : ∀ w ∈ N, M w.1 w.2.1 = w.2.2) (hL' : L' = N ++ L) (h6z : n ≤ 6 → ∀ j : Int, M 6 j = 0) : HSJ m0 kd2 ln2 M sz2 n' L' := by
  obtain ⟨h1, h2, h3, h4, h5, h6⟩ := h
  refine ⟨hs, fun a q1 q2 => ?_, fun w hw => ?_, fun b j q => (hM b j (by omega) (by omega)).trans (h4 b j q), fun _ j q1 q2 => (hM 4 j (by omega) (by omega)).trans (h5 (by omega) j q1 q2), fun q j => ?_⟩
  · rcases Int.lt_or_le a n with q | q
    · have e := hE.2 a (by omega)
      rw [e.1, e.2]
      exact h2 a q1 q
    · exact hK a q q2
  · subst hL'
    rcases List.mem_append.mp hw with q | q
    · exact hN w q
    · have c := of_decide_eq_true (List.all_eq_true.mp hL w q)
      rw [hM w.1 w.2.1 c.1 c.2]
      exact h3 w q
  · rcases Int.lt_or_le 6 n with w | w
    · exact (hM 6 j w (by omega)).trans (h6 w j)
    · exact h6z w j
/-- rows behind an object -/
def RW1 (p s0 : Int) (P : List (Int × Nat × Int)) (i : Nat) (kd : Int → Nat) (ln : Int → Int) (m : Int → Int → Int) : Prop := ∀ t : Nat, t < i → ∀ w : Int × Nat × Int, P[t]? = some w → m p w.1 = s0 + t ∧ kd (s0 + t) = w.2.1 ∧ ln (s0 + t) = w.2.2 ∧ ∀ j : Int, m (s0 + t) j = 0
theorem RW1.k {p s0 n n' : Int} {P : List (Int × Nat × Int)} {i : Nat} {kd1 kd : Int → Nat} {ln1 ln : Int → Int} {sz1 sz : Nat} {m : Int → Int → Int} {c : Nat} (h : RW1 p s0 P i kd ln m) (hp : p = n) (hk1 : kd1 p = c) (hE : EXT kd1 ln1 sz1 kd ln sz) (hs1 : p < ((sz1 : Nat) : Int)) (hs0 : s0 = n + 1) (hn' : n' = n + 1 + i) (hc : c = kdH n) (hc2 : c < 20) (hP : ∀ t : Nat, t < i → (P[t]?).map (fun w => (w.2.1, w.2.2)) = some (kdH (n + 1 + t), lnH (n + 1 + t))) : ∀ a : Int, n ≤ a → a < n' → kd a = kdH a ∧ (20 ≤ kdH a → ln a = lnH a) := by
  intro a q1 q2
  by_cases e : a = n
  · rw [e, ← hc]
    refine ⟨?_, fun q => by omega⟩
    rw [← hp, (hE.2 p hs1).1]
    exact hk1
  · obtain ⟨t, ht⟩ : ∃ t : Nat, (t : Int) = a - (n + 1) := ⟨(a - (n + 1)).toNat, by omega⟩
    have ht2 : t < i := by omega
    have hq := hP t ht2
    cases hw : P[t]? with
    | none => rw [hw] at hq; cases hq
    | some w =>
      rw [hw] at hq
      have g := h t ht2 w hw
      have e1 : (w.2.1, w.2.2) = (kdH (n + 1 + t), lnH (n + 1 + t)) := Option.some.inj hq
      have e2 : w.2.1 = kdH (n + 1 + t) := congrArg Prod.fst e1
      have e3 : w.2.2 = lnH (n + 1 + t) := congrArg Prod.snd e1
      rw [show a = n + 1 + t by omega, ← e2, ← e3, ← hs0]
      exact ⟨g.2.1, fun _ => g.2.2.1⟩
theorem RW1.r {p s0 : Int} {P : List (Int × Nat × Int)} {i : Nat} {kd : Int → Nat} {ln : Int → Int} {m : Int → Int → Int} (h : RW1 p s0 P i kd ln m) (t : Nat) (k : Int) (c : Nat) (y : Int) (ht : t < i) (hw : P[t]? = some (k, c, y)) (v a : Int) (ha : a = p) (hv : v = s0 + t) : m a k = v := by
  rw [ha, hv]
  exact (h t ht _ hw).1
theorem fmq1 {P : Int × Int × Int → Prop} {a : Int × Int × Int} {l : List (Int × Int × Int)} (h : P a) (h2 : ∀ w ∈ l, P w) : ∀ w ∈ a :: l, P w := List.forall_mem_cons.mpr ⟨h, h2⟩
theorem fmq0 {P : Int × Int × Int → Prop} : ∀ w ∈ ([] : List (Int × Int × Int)), P w := fun w h => by cases h
theorem HSJ.beg {m0 m : Int → Int → Int} {kd : Int → Nat} {ln : Int → Int} {sz : Nat} {L : List (Int × Int × Int)} (h1 : ((sz : Nat) : Int) = 5) (h3 : kd 3 = 13) (h4 : kd 4 = 20 ∧ ln 4 = 64) (hL : ∀ w ∈ L, m w.1 w.2.1 = w.2.2) (hf : ∀ b j : Int, b < 3 → m b j = m0 b j) (h64 : ∀ j : Int, 0 ≤ j → j < 64 → m 4 j = -1) : HSJ m0 kd ln m sz 5 L :=
  ⟨h1, fun a q1 q2 => by
    by_cases e : a = 3
    · rw [e]; exact ⟨h3, fun q => absurd q (by decide)⟩
    · rw [show a = 4 by omega]; exact ⟨h4.1, fun _ => h4.2⟩, hL, hf, fun _ => h64, fun q => absurd q (by decide)⟩
def HOUT (m0 : Int → Int → Int) (kd : Int → Nat) (ln : Int → Int) (m : Int → Int → Int) : Prop := HK kd ln ∧ HR m ∧ (m 3 0 = 0 ∧ m 3 1 = -1 ∧ m 3 2 = 0 ∧ m 3 3 = 10 ∧ m 3 4 = 0 ∧ m 3 5 = 0 ∧ m 5 1 = 0) ∧ EB m ∧ (∀ a : Int, 27 ≤ a → a ≤ 34 → m a 0 = 0 ∧ m a 1 = 1 ∧ m a 2 = 0) ∧ (∀ j : Int, 0 ≤ j → j < 64 → m 4 j = -1) ∧ (∀ j : Int, m 6 j = 0) ∧ ∀ b j : Int, b < 3 → m b j = m0 b j
theorem HSJ.fin {m0 m : Int → Int → Int} {kd0 kd : Int → Nat} {ln0 ln : Int → Int} {sz0 sz : Nat} {L : List (Int × Int × Int)} (h : HSJ m0 kd ln m sz 35 L) (hE : EXT kd0 ln0 sz0 kd ln sz) (hs0 : 2 ≤ sz0) (h0 : kd0 0 = 21 ∧ ln0 0 = 13) (h1 : kd0 1 = 23 ∧ ln0 1 = 0) (ht : ∀ j : Int, 0 ≤ j → j < 13 → m0 0 j = 10 ^ j.toNat) (hR : (hrL.all fun w => L.contains w) = true) (hX : (([(3, 0, 0), (3, 1, -1), (3, 2, 0), (3, 3, 10), (3, 4, 0), (3, 5, 0), (5, 1, 0), (7, 3, 0), (7, 4, 0), (7, 5, 0)] : List (Int × Int × Int)).all fun w => L.contains w) = true) (hL8 : ∀ i : Fin 8, (L.contains ((27 + (i.val : Int)), (0 : Int), (0 : Int)) && L.contains ((27 + (i.val : Int)), (1 : Int), (1 : Int)) && L.contains ((27 + (i.val : Int)), (2 : Int), (0 : Int))) = true) : HOUT m0 kd ln m := by
  obtain ⟨g1, g2, g3, g4, g5, g6⟩ := h
  have e0 := hE.2 0 (by omega)
  have e1 := hE.2 1 (by omega)
  have cX : ∀ w ∈ ([(3, 0, 0), (3, 1, -1), (3, 2, 0), (3, 3, 10), (3, 4, 0), (3, 5, 0), (5, 1, 0), (7, 3, 0), (7, 4, 0), (7, 5, 0)] : List (Int × Int × Int)), m w.1 w.2.1 = w.2.2 := fun w hw => g3 w (List.contains_iff_mem.mp (List.all_eq_true.mp hX w hw))
  have x73 : m 7 3 = 0 := cX (7, 3, 0) (by decide)
  have x74 : m 7 4 = 0 := cX (7, 4, 0) (by decide)
  have x75 : m 7 5 = 0 := cX (7, 5, 0) (by decide)
  refine ⟨⟨fun p hp => ?_, fun p hp => ?_⟩, ⟨fun p hp => g3 p (List.contains_iff_mem.mp (List.all_eq_true.mp hR p hp)), fun j q1 q2 => (g4 0 j (by decide)).trans (ht j q1 q2)⟩, ⟨cX (3, 0, 0) (by decide), cX (3, 1, -1) (by decide), cX (3, 2, 0) (by decide), cX (3, 3, 10) (by decide), cX (3, 4, 0) (by decide), cX (3, 5, 0) (by decide), cX (5, 1, 0) (by decide)⟩, ⟨by omega, by omega, by omega⟩, fun a q1 q2 => ?_, g5 (by decide), g6 (by decide), g4⟩
  · have hc : ∀ p ∈ hkO, 3 ≤ p.1 ∧ p.1 < 35 ∧ kdH p.1 = p.2 := by decide
    have c := hc p hp
    rw [← c.2.2]
    exact (g2 p.1 c.1 c.2.1).1
  · have hc : ∀ p ∈ hkA, (p = (0, 21, 13) ∨ p = (1, 23, 0)) ∨ (3 ≤ p.1 ∧ p.1 < 35 ∧ kdH p.1 = p.2.1 ∧ lnH p.1 = p.2.2 ∧ 20 ≤ kdH p.1) := by decide
    rcases hc p hp with (c | c) | c
    · subst c; exact ⟨e0.1.trans h0.1, e0.2.trans h0.2⟩
    · subst c; exact ⟨e1.1.trans h1.1, e1.2.trans h1.2⟩
    · have w := g2 p.1 c.1 c.2.1
      rw [← c.2.2.1, ← c.2.2.2.1]
      exact ⟨w.1, w.2 c.2.2.2.2⟩
  · have hq := hL8 ⟨(a - 27).toNat, by omega⟩
    have e : (27 + ((((a - 27).toNat : Nat)) : Int)) = a := by omega
    simp only [e, Bool.and_eq_true] at hq
    exact ⟨g3 _ (List.contains_iff_mem.mp hq.1.1), g3 _ (List.contains_iff_mem.mp hq.1.2), g3 _ (List.contains_iff_mem.mp hq.2)⟩
set_option maxHeartbeats 4000000 in
set_option maxRecDepth 100000 in
theorem c_X5_openP {l : Launch} {g : GP} (hG : GH g) {kd : Int → Nat} {ln : Int → Int} {mem : Int → Int → Int} {sz : Nat} (p : Int) (x : Int) (hkp : kd p = 7) : MT l g yX5_open cX5_open 2 none 0 0 0 [(2, p), (2, x)] kd ln mem sz (pMV (fun mem' => (mem' = set2 (set2 (set2 (set2 mem p 0 x) p 1 0) p 2 (-1)) p 6 0)) kd ln sz) := by
  refine MT_of hG (by decide +kernel) (Nat.le_of_ble_eq_true rfl) (fun z hF hr hn => ?_)
  refine jblk hF [(.aload_n 0, 1), (.aload_n 1, 1)] (by decide +kernel) (pc' := 2) (lo' := [(0, (2, p)), (1, (2, x))]) (st' := [(2, x), (2, p)]) rfl ?_
  refine jput hF 6 0 2 0 rfl (by decide) (by decide) rfl wd_170 (by decide +kernel) rfl (Or.inr (Or.inr (Or.inr (Or.inl ⟨_, rfl⟩)))) (by first | assumption | omega) (fun h => by cases h) ?_
  refine jblk hF [(.aload_n 0, 1), (.iconst 0, 1)] (by decide +kernel) (pc' := 7) (lo' := [(0, (2, p)), (1, (2, x))]) (st' := [(0, 0), (2, p)]) rfl ?_
  refine jput hF 6 1 0 1 rfl (by decide) (by decide) rfl wd_171 (by decide +kernel) rfl (Or.inl rfl) (by first | assumption | omega) (fun h => by cases h) ?_
  refine jblk hF [(.aload_n 0, 1), (.iconst (-1), 1)] (by decide +kernel) (pc' := 12) (lo' := [(0, (2, p)), (1, (2, x))]) (st' := [(0, (-1)), (2, p)]) rfl ?_
  refine jput hF 6 2 0 2 rfl (by decide) (by decide) rfl wd_172 (by decide +kernel) rfl (Or.inl rfl) (by first | assumption | omega) (fun h => by cases h) ?_
  refine jblk hF [(.aload_n 0, 1)] (by decide +kernel) (pc' := 16) (lo' := [(0, (2, p)), (1, (2, x))]) (st' := [(2, p)]) rfl ?_
  refine jlconst hF (n := 0) 0 rfl (by decide +kernel) ?_
  refine jput hF 6 6 1 6 rfl (by decide) (by decide) rfl wd_176 (by decide +kernel) rfl (Or.inr (Or.inr (Or.inl rfl))) (by first | assumption | omega) (fun h => by cases h) ?_
  refine jvret hF hr (by decide +kernel) ?_
  exact lMV (by rfl)
set_option maxHeartbeats 4000000 in
set_option maxRecDepth 100000 in
theorem c_X5_init {l : Launch} {g : GP} (hG : GH g) {kd : Int → Nat} {ln : Int → Int} {mem : Int → Int → Int} {sz : Nat} (p : Int) (hkp : kd p = 7) (hp0 : 0 ≤ p) (hps : p < sz) : MT l g yX5_init cX5_init 1 none 2 2 162 [(2, p)] kd ln mem sz (pXV (fun kd' ln' mem' sz' => (sz' = sz + 2 ∧ (mem' p 0 = sz ∧ mem' p 3 = mem p 3 ∧ mem' p 4 = mem p 4 ∧ mem' p 5 = mem p 5 ∧ mem' sz 0 = sz + 1 ∧ mem' sz 1 = 0) ∧ kd' sz = 12 ∧ kd' (sz + 1) = 20 ∧ ln' (sz + 1) = 0 ∧ ∀ b j : Int, b ≠ p → b < sz → mem' b j = mem b j)) kd ln sz) := by
  refine MT_of hG (by decide +kernel) (Nat.le_of_ble_eq_true rfl) (fun z hF hr hn => ?_)
  refine jblk hF [(.aload_n 0, 1)] (by decide +kernel) (pc' := 1) (lo' := [(0, (2, p))]) (st' := [(2, p)]) rfl ?_
  refine jobj hF (by omega) wd_163 wd_133 wd_objcode (by decide +kernel) (by decide) ?_
  refine jblk hF [(.aload_n 0, 1)] (by decide +kernel) (pc' := 5) (lo' := [(0, (2, p))]) (st' := [(2, p)]) rfl ?_
  refine jnew hF 11 (by decide) okT_11 wd_164 wd_139 wd_103 (by decide +kernel) ⟨Nat.le_of_ble_eq_true rfl, Nat.le_of_ble_eq_true rfl⟩ ?_
  obtain ⟨kd_1, hkd_1⟩ : ∃ q : Int → Nat, q = upK kd ((sz : Nat) : Int) (12) := ⟨_, rfl⟩
  obtain ⟨m_1, hm_1⟩ : ∃ q : Int → Int → Int, q = newO 11 mem ((sz : Nat) : Int) := ⟨_, rfl⟩
  obtain ⟨sz_1, hsz_1⟩ : ∃ q : Nat, q = sz + 1 := ⟨_, rfl⟩
  obtain ⟨a_1, ha_1⟩ : ∃ q : Int, q = ((sz : Nat) : Int) := ⟨_, rfl⟩
  rw [← hkd_1, ← hm_1, ← hsz_1]
  rw [← ha_1]
  have hk_1 : kd_1 a_1 = 12 := by rw [ha_1, hkd_1]; exact if_pos rfl
  have hE_1 : EXT kd ln sz kd_1 ln sz_1 := by rw [hsz_1, hkd_1]; exact EXT.k _
  have hEE_1 : EXT kd ln sz kd_1 ln sz_1 := (EXT.rf).tr hE_1
  have hmo_1 : ∀ b j : Int, b ≠ a_1 → m_1 b j = mem b j := fun b j q => by rw [hm_1]; exact newO_o j (by rw [← ha_1]; exact q)
  have hmn_1 : ∀ j : Int, m_1 a_1 j = dfl 11 j.toNat := fun j => by rw [hm_1, ha_1]; exact newO_s j
  have hmoA := hmo_1
  have hmnA := hmn_1
  have hEA := hE_1
  have hkA := hk_1
  have haA := ha_1
  have hszA := hsz_1
  have hEEA := hEE_1
  have hkp1 := (hEA.2 p (by omega)).1.trans hkp
  refine jblk hF [(.dup, 1), (.iconst 0, 1)] (by decide +kernel) (pc' := 10) (lo' := [(0, (2, p))]) (st' := [(0, 0), (2, a_1), (2, a_1), (2, p)]) rfl ?_
  refine jcallI hF (c_X10_init hG a_1 0 (by first | assumption | omega) (by omega) (by omega) (by omega)) MW_X10_init rfl (by omega) wd_165 wd_141 (by decide +kernel) [(2, a_1), (2, p)] rfl rfl (by decide) (Nat.le_of_ble_eq_true rfl) ⟨Nat.le_of_ble_eq_true rfl, Nat.le_of_ble_eq_true rfl⟩ (kXV (fun kd_2 ln_2 m_2 sz_2 hE_2 h_2 => ?_))
  have hEE_2 : EXT kd ln sz kd_2 ln_2 sz_2 := (hEE_1).tr hE_2
  obtain ⟨t1, t2, t3, t4, t5, t6, t7⟩ := h_2
  have hkp2 := (hE_2.2 p (by omega)).1.trans hkp1
  have hka2 : kd_2 a_1 = 12 := (hE_2.2 a_1 (by omega)).1.trans hkA
  have hsn : ((sz_1 : Nat) : Int) = a_1 + 1 := by omega
  rw [hsn] at t2 t4 t5 t6
  refine jput hF 6 0 2 0 rfl (by decide) (by decide) rfl wd_170 (by decide +kernel) rfl (Or.inr (Or.inr (Or.inr (Or.inl ⟨_, rfl⟩)))) (by first | assumption | omega) (fun h => by cases h) ?_
  refine jblk hF [(.aload_n 0, 1), (.aload_n 0, 1)] (by decide +kernel) (pc' := 18) (lo' := [(0, (2, p))]) (st' := [(2, p), (2, p)]) rfl ?_
  refine jget hF 6 0 2 0 rfl (by decide) (by decide) rfl wd_170 (by decide +kernel) (by first | assumption | omega) ?_
  rw [show (set2 m_2 p 0 a_1) p 0 = a_1 from s2_s]
  refine jcallV hF (c_X5_openP hG p a_1 (by first | assumption | omega)) MW_X5_open 6 (by decide) (by first | assumption | omega) wd_166 wd_168 wd_p0 (by decide +kernel) [] rfl rfl (by decide) (Nat.le_of_ble_eq_true rfl) (by decide) (kMV (fun m_3 h_4 => ?_))
  have ho := h_4
  refine jwiden (k := 2) (n := 162) (Nat.le_of_ble_eq_true rfl) (Nat.le_of_ble_eq_true rfl) ?_
  refine jvret hF hr (by decide +kernel) ?_
  exact ⟨rfl, hEE_2, (by exact ⟨by omega, ⟨by rw [ho, s2_k (by decide), s2_k (by decide), s2_k (by decide), s2_s], by rw [ho, s2_k (by decide), s2_k (by decide), s2_k (by decide), s2_k (by decide), s2_k (by decide), t7 p 3 (by omega) (by omega)]; exact hmoA p 3 (by omega), by rw [ho, s2_k (by decide), s2_k (by decide), s2_k (by decide), s2_k (by decide), s2_k (by decide), t7 p 4 (by omega) (by omega)]; exact hmoA p 4 (by omega), by rw [ho, s2_k (by decide), s2_k (by decide), s2_k (by decide), s2_k (by decide), s2_k (by decide), t7 p 5 (by omega) (by omega)]; exact hmoA p 5 (by omega), by rw [ho, s2_a (by omega), s2_a (by omega), s2_a (by omega), s2_a (by omega), s2_a (by omega)]; exact t2, by rw [ho, s2_a (by omega), s2_a (by omega), s2_a (by omega), s2_a (by omega), s2_a (by omega)]; exact t3⟩, hka2, t4, t5, fun b j q1 q2 => by rw [ho, s2_a q1, s2_a q1, s2_a q1, s2_a q1, s2_a q1, t7 b j (by omega) (by omega)]; exact hmoA b j (by omega)⟩)⟩
set_option maxHeartbeats 4000000 in
set_option maxRecDepth 100000 in
theorem c_X11_init {l : Launch} {g : GP} (hG : GH g) {kd : Int → Nat} {ln : Int → Int} {mem : Int → Int → Int} {sz : Nat} (hsz : sz = 4) (hk3 : kd 3 = 13) (hk0 : kd 0 = 21 ∧ ln 0 = 13) (hk1 : kd 1 = 23 ∧ ln 1 = 0) (hTN0 : ∀ j : Int, 0 ≤ j → j < 13 → mem 0 j = 10 ^ j.toNat) (hEM : EMP g) : MT l g yX11_init cX11_init 1 none 4 31 1313 [(2, 3)] kd ln mem sz (pXV (fun kd' ln' mem' sz' => (sz' = 35 ∧ HOUT mem kd' ln' mem')) kd ln sz) := by
  refine MT_of hG (by decide +kernel) (Nat.le_of_ble_eq_true rfl) (fun z hF hr hn => ?_)
  refine jblk hF [(.aload_n 0, 1)] (by decide +kernel) (pc' := 1) (lo' := [(0, (2, 3))]) (st' := [(2, 3)]) rfl ?_
  refine jobj hF (by omega) wd_132 wd_133 wd_objcode (by decide +kernel) (by decide) ?_
  refine jblk hF [(.aload_n 0, 1), (.iconst 0, 1)] (by decide +kernel) (pc' := 6) (lo' := [(0, (2, 3))]) (st' := [(0, 0), (2, 3)]) rfl ?_
  refine jput hF 12 0 0 0 rfl (by decide) (by decide) rfl wd_326 (by decide +kernel) rfl (Or.inl rfl) (by first | assumption | omega) (fun h => by cases h) ?_
  refine jblk hF [(.aload_n 0, 1), (.iconst (-1), 1)] (by decide +kernel) (pc' := 11) (lo' := [(0, (2, 3))]) (st' := [(0, (-1)), (2, 3)]) rfl ?_
  refine jput hF 12 1 0 1 rfl (by decide) (by decide) rfl wd_327 (by decide +kernel) rfl (Or.inl rfl) (by first | assumption | omega) (fun h => by cases h) ?_
  refine jblk hF [(.aload_n 0, 1), (.iconst 0, 1)] (by decide +kernel) (pc' := 16) (lo' := [(0, (2, 3))]) (st' := [(0, 0), (2, 3)]) rfl ?_
  refine jput hF 12 2 0 2 rfl (by decide) (by decide) rfl wd_328 (by decide +kernel) rfl (Or.inl rfl) (by first | assumption | omega) (fun h => by cases h) ?_
  refine jblk hF [(.aload_n 0, 1), (.bipush 10, 2)] (by decide +kernel) (pc' := 22) (lo' := [(0, (2, 3))]) (st' := [(0, 10), (2, 3)]) rfl ?_
  refine jput hF 12 3 0 3 rfl (by decide) (by decide) rfl wd_329 (by decide +kernel) rfl (Or.inl rfl) (by first | assumption | omega) (fun h => by cases h) ?_
  refine jblk hF [(.aload_n 0, 1), (.iconst 0, 1)] (by decide +kernel) (pc' := 27) (lo' := [(0, (2, 3))]) (st' := [(0, 0), (2, 3)]) rfl ?_
  refine jput hF 12 4 0 4 rfl (by decide) (by decide) rfl wd_330 (by decide +kernel) rfl (Or.inl rfl) (by first | assumption | omega) (fun h => by cases h) ?_
  refine jblk hF [(.aload_n 0, 1), (.iconst 0, 1)] (by decide +kernel) (pc' := 32) (lo' := [(0, (2, 3))]) (st' := [(0, 0), (2, 3)]) rfl ?_
  refine jput hF 12 5 0 5 rfl (by decide) (by decide) rfl wd_331 (by decide +kernel) rfl (Or.inl rfl) (by first | assumption | omega) (fun h => by cases h) ?_
  refine jblk hF [(.aload_n 0, 1), (.bipush 64, 2)] (by decide +kernel) (pc' := 38) (lo' := [(0, (2, 3))]) (st' := [(0, 64), (2, 3)]) rfl ?_
  refine jnewa hF (at' := .int) 0 (by decide) rfl wd_157 (by decide +kernel) (by omega) (by omega) ⟨Nat.le_of_ble_eq_true rfl, Nat.le_of_ble_eq_true rfl⟩ ?_
  obtain ⟨kd_1, hkd_1⟩ : ∃ q : Int → Nat, q = upK kd ((sz : Nat) : Int) (20) := ⟨_, rfl⟩
  obtain ⟨ln_1, hln_1⟩ : ∃ q : Int → Int, q = upL ln ((sz : Nat) : Int) 64 := ⟨_, rfl⟩
  obtain ⟨m_1, hm_1⟩ : ∃ q : Int → Int → Int, q = newA 0 (set2 (set2 (set2 (set2 (set2 (set2 mem 3 0 0) 3 1 (-1)) 3 2 0) 3 3 10) 3 4 0) 3 5 0) ((sz : Nat) : Int) := ⟨_, rfl⟩
  obtain ⟨sz_1, hsz_1⟩ : ∃ q : Nat, q = sz + 1 := ⟨_, rfl⟩
  obtain ⟨a_1, ha_1⟩ : ∃ q : Int, q = ((sz : Nat) : Int) := ⟨_, rfl⟩
  rw [← hkd_1, ← hln_1, ← hm_1, ← hsz_1]
  rw [← ha_1]
  have hk_1 : kd_1 a_1 = 20 := by rw [ha_1, hkd_1]; exact if_pos rfl
  have hl_1 : ln_1 a_1 = 64 := by rw [ha_1, hln_1]; exact if_pos rfl
  have hE_1 : EXT kd ln sz kd_1 ln_1 sz_1 := by rw [hsz_1, hkd_1, hln_1]; exact EXT.a _ _
  have hEE_1 : EXT kd ln sz kd_1 ln_1 sz_1 := (EXT.rf).tr hE_1
  have hmo_1 : ∀ b j : Int, b ≠ a_1 → m_1 b j = (set2 (set2 (set2 (set2 (set2 (set2 mem 3 0 0) 3 1 (-1)) 3 2 0) 3 3 10) 3 4 0) 3 5 0) b j := fun b j q => by rw [hm_1]; exact newA_o j (by rw [← ha_1]; exact q)
  have hmn_1 : ∀ j : Int, m_1 a_1 j = 0 := fun j => by rw [hm_1, ha_1]; exact newA_s j
  have hmoA := hmo_1
  have hmnA := hmn_1
  have hEA := hE_1
  have hkA := hk_1
  have haA := ha_1
  have hszA := hsz_1
  have hEEA := hEE_1
  have hlA := hl_1
  have hk3n := (hEA.2 3 (by omega)).1.trans hk3
  refine jputF hF hn 12 6 2 6 rfl (by decide) (by decide) rfl wd_332 (by decide +kernel) rfl rfl (Or.inr (Or.inr (Or.inr (Or.inr ⟨_, rfl⟩)))) (by first | assumption | omega) (fun h => by cases h) ?_
  refine jblk hF [(.aload_n 0, 1)] (by decide +kernel) (pc' := 44) (lo' := [(0, (2, 3))]) (st' := [(2, 3)]) rfl ?_
  refine jget hF 12 6 2 6 rfl (by decide) (by decide) rfl wd_332 (by decide +kernel) (by first | assumption | omega) ?_
  rw [show (set2 m_1 3 6 a_1) 3 6 = a_1 from s2_s]
  refine jblk hF [(.iconst (-1), 1)] (by decide +kernel) (pc' := 48) (lo' := [(0, (2, 3))]) (st' := [(0, (-1)), (2, a_1)]) rfl ?_
  refine jcallS hF (c_J7_fill_53178 hG a_1 (-1) (by exact hkA) (by omega) (by omega)) MW_J7_fill_53178 wd_135 wd_136 (by decide +kernel) [] rfl rfl (by decide) (Nat.le_of_ble_eq_true rfl) (by decide) (kMV (fun m_2 h_3 => ?_))
  have hfl := h_3
  have ha4 : a_1 = 4 := by omega
  rw [hlA, ha4] at hfl
  have hka4 : kd_1 4 = 20 ∧ ln_1 4 = 64 := by rw [← ha4]; exact ⟨hkA, hlA⟩
  have hr0 : ∀ k : Int, k ≠ 6 → m_2 3 k = (set2 (set2 (set2 (set2 (set2 (set2 mem 3 0 0) 3 1 (-1)) 3 2 0) 3 3 10) 3 4 0) 3 5 0) 3 k := fun k w => by rw [hfl]; refine (if_neg (by omega)).trans ?_; rw [s2_k w]; exact hmoA 3 k (by omega)
  obtain ⟨mP1, hmP1⟩ : ∃ q : Int → Int → Int, q = m_2 := ⟨_, rfl⟩
  rw [← hmP1]
  have hH1 : HSJ mem kd_1 ln_1 mP1 sz_1 5 [(3, 6, 4), (3, 0, 0), (3, 1, (-1)), (3, 2, 0), (3, 3, 10), (3, 4, 0), (3, 5, 0)] := by
    rw [hmP1]
    refine HSJ.beg (by omega) hk3n hka4 (fmq1 (by rw [hfl]; exact (if_neg (by decide)).trans s2_s) (fmq1 ((hr0 0 (by decide)).trans (by rw [s2_k (by decide), s2_k (by decide), s2_k (by decide), s2_k (by decide), s2_k (by decide), s2_s])) (fmq1 ((hr0 1 (by decide)).trans (by rw [s2_k (by decide), s2_k (by decide), s2_k (by decide), s2_k (by decide), s2_s])) (fmq1 ((hr0 2 (by decide)).trans (by rw [s2_k (by decide), s2_k (by decide), s2_k (by decide), s2_s])) (fmq1 ((hr0 3 (by decide)).trans (by rw [s2_k (by decide), s2_k (by decide), s2_s])) (fmq1 ((hr0 4 (by decide)).trans (by rw [s2_k (by decide), s2_s])) (fmq1 ((hr0 5 (by decide)).trans (by rw [s2_s])) (fmq0)))))))) (fun b j w => ?_) (fun j w1 w2 => by rw [hfl]; exact if_pos ⟨rfl, w1, w2⟩)
    rw [hfl]
    refine (if_neg (by omega)).trans ?_
    rw [s2_a (by omega), hmoA b j (by omega), s2_a (by omega), s2_a (by omega), s2_a (by omega), s2_a (by omega), s2_a (by omega), s2_a (by omega)]
  clear hr0 hfl hmP1 hka4 hkA hmnA hlA hmoA hEA haA hszA
  refine jblk hF [(.aload_n 0, 1)] (by decide +kernel) (pc' := 52) (lo' := [(0, (2, 3))]) (st' := [(2, 3)]) rfl ?_
  refine jnew hF 11 (by decide) okT_11 wd_138 wd_139 wd_103 (by decide +kernel) ⟨Nat.le_of_ble_eq_true rfl, Nat.le_of_ble_eq_true rfl⟩ ?_
  obtain ⟨kd_4, hkd_4⟩ : ∃ q : Int → Nat, q = upK kd_1 ((sz_1 : Nat) : Int) (12) := ⟨_, rfl⟩
  obtain ⟨m_4, hm_4⟩ : ∃ q : Int → Int → Int, q = newO 11 mP1 ((sz_1 : Nat) : Int) := ⟨_, rfl⟩
  obtain ⟨sz_4, hsz_4⟩ : ∃ q : Nat, q = sz_1 + 1 := ⟨_, rfl⟩
  obtain ⟨a_4, ha_4⟩ : ∃ q : Int, q = ((sz_1 : Nat) : Int) := ⟨_, rfl⟩
  rw [← hkd_4, ← hm_4, ← hsz_4]
  rw [← ha_4]
  have hk_4 : kd_4 a_4 = 12 := by rw [ha_4, hkd_4]; exact if_pos rfl
  have hE_4 : EXT kd_1 ln_1 sz_1 kd_4 ln_1 sz_4 := by rw [hsz_4, hkd_4]; exact EXT.k _
  have hEE_4 : EXT kd ln sz kd_4 ln_1 sz_4 := (hEE_1).tr hE_4
  have hmo_4 : ∀ b j : Int, b ≠ a_4 → m_4 b j = mP1 b j := fun b j q => by rw [hm_4]; exact newO_o j (by rw [← ha_4]; exact q)
  have hmn_4 : ∀ j : Int, m_4 a_4 j = dfl 11 j.toNat := fun j => by rw [hm_4, ha_4]; exact newO_s j
  have hmoA := hmo_4
  have hmnA := hmn_4
  have hEA := hE_4
  have hkA := hk_4
  have haA := ha_4
  have hszA := hsz_4
  have hEEA := hEE_4
  have hz0 := hH1.1
  have haN : a_4 = 5 := by omega
  obtain ⟨w0, hw0⟩ : ∃ x : Int, x = a_4 := ⟨_, rfl⟩
  have hk3x := (hEA.2 3 (by omega)).1.trans hk3n
  refine jblk hF [(.dup, 1), (.sipush 160, 3)] (by decide +kernel) (pc' := 59) (lo' := [(0, (2, 3))]) (st' := [(0, 160), (2, a_4), (2, a_4), (2, 3)]) rfl ?_
  refine jcallI hF (c_X10_init hG a_4 160 (by first | assumption | omega) (by omega) (by omega) (by omega)) MW_X10_init rfl (by omega) wd_140 wd_141 (by decide +kernel) [(2, a_4), (2, 3)] rfl rfl (by decide) (Nat.le_of_ble_eq_true rfl) ⟨Nat.le_of_ble_eq_true rfl, Nat.le_of_ble_eq_true rfl⟩ (kXV (fun kd_5 ln_5 m_5 sz_5 hE_5 h_5 => ?_))
  have hEE_5 : EXT kd ln sz kd_5 ln_5 sz_5 := (hEE_4).tr hE_5
  have hkN7 : kd_4 5 = 12 := by have w := hkA; rw [haN] at w; exact w
  obtain ⟨t1, t2, t3, t4, t5, t6, t7⟩ := h_5
  have hsn : ((sz_4 : Nat) : Int) = 6 := by omega
  rw [hsn] at t2 t4 t5 t6
  rw [haN] at t2 t3
  have hrw : RW1 5 6 [(0, 20, 160)] 1 kd_5 ln_5 m_5 := fun t h1 w h2 => by
    obtain rfl : t = 0 := by omega
    cases h2
    exact ⟨t2, t4, t5, t6⟩
  have hfr : ∀ b j : Int, b < 5 → m_5 b j = mP1 b j := fun b j w => (t7 b j (by omega) (by omega)).trans (hmoA b j (by omega))
  have hk3y := (hE_5.2 3 (by omega)).1.trans hk3x
  have hE2 := hEA.tr hE_5
  have hKN := hrw.k (n := 5) (n' := 7) (c := 12) rfl (by rw [← haN]; exact hkA) hE_5 (by omega) rfl (by decide) (by decide) (by decide) (by decide)
  refine jputF hF hn 12 7 2 7 rfl (by decide) (by decide) rfl wd_333 (by decide +kernel) rfl rfl (Or.inr (Or.inr (Or.inr (Or.inl ⟨_, rfl⟩)))) (by first | assumption | omega) (fun h => by cases h) ?_
  obtain ⟨mP2, hmP2⟩ : ∃ q : Int → Int → Int, q = (set2 m_5 3 7 a_4) := ⟨_, rfl⟩
  rw [← hmP2]
  have hH2 := HSJ.grp (M := mP2) (N := [(3, 7, 5), (5, 0, 6), (5, 1, 0)]) (k := 7) hH1 (by decide) hE2 (show _ = 7 from by omega) hKN (fun b j w1 w2 => by rw [hmP2]; exact (if_neg w2).trans (hfr b j w1)) (by decide) (by rw [hmP2]; exact fmq1 (s2_s.trans haN) (fmq1 ((s2_a (by decide)).trans (hrw.r 0 0 20 160 (by decide) rfl _ _ rfl rfl)) (fmq1 ((s2_a (by decide)).trans t3) (fmq0)))) rfl (fun _ j => by rw [hmP2]; exact (if_neg (by omega)).trans (t6 j))
  have hk3n := hk3y
  clear hH1 hmP2 haN hw0 hE2 hfr hk3x hz0 hkN7
  refine jblk hF [(.aload_n 0, 1)] (by decide +kernel) (pc' := 66) (lo' := [(0, (2, 3))]) (st' := [(2, 3)]) rfl ?_
  refine jnew hF 6 (by decide) okT_6 wd_158 wd_159 wd_105 (by decide +kernel) ⟨Nat.le_of_ble_eq_true rfl, Nat.le_of_ble_eq_true rfl⟩ ?_
  obtain ⟨kd_6, hkd_6⟩ : ∃ q : Int → Nat, q = upK kd_5 ((sz_5 : Nat) : Int) (7) := ⟨_, rfl⟩
  obtain ⟨m_6, hm_6⟩ : ∃ q : Int → Int → Int, q = newO 6 mP2 ((sz_5 : Nat) : Int) := ⟨_, rfl⟩
  obtain ⟨sz_6, hsz_6⟩ : ∃ q : Nat, q = sz_5 + 1 := ⟨_, rfl⟩
  obtain ⟨a_6, ha_6⟩ : ∃ q : Int, q = ((sz_5 : Nat) : Int) := ⟨_, rfl⟩
  rw [← hkd_6, ← hm_6, ← hsz_6]
  rw [← ha_6]
  have hk_6 : kd_6 a_6 = 7 := by rw [ha_6, hkd_6]; exact if_pos rfl
  have hE_6 : EXT kd_5 ln_5 sz_5 kd_6 ln_5 sz_6 := by rw [hsz_6, hkd_6]; exact EXT.k _
  have hEE_6 : EXT kd ln sz kd_6 ln_5 sz_6 := (hEE_5).tr hE_6
  have hmo_6 : ∀ b j : Int, b ≠ a_6 → m_6 b j = mP2 b j := fun b j q => by rw [hm_6]; exact newO_o j (by rw [← ha_6]; exact q)
  have hmn_6 : ∀ j : Int, m_6 a_6 j = dfl 6 j.toNat := fun j => by rw [hm_6, ha_6]; exact newO_s j
  have hmoA := hmo_6
  have hmnA := hmn_6
  have hEA := hE_6
  have hkA := hk_6
  have haA := ha_6
  have hszA := hsz_6
  have hEEA := hEE_6
  have hz0 := hH2.1
  have haN : a_6 = 7 := by omega
  obtain ⟨w0, hw0⟩ : ∃ x : Int, x = a_6 := ⟨_, rfl⟩
  have hk3x := (hEA.2 3 (by omega)).1.trans hk3n
  refine jblk hF [(.dup, 1)] (by decide +kernel) (pc' := 70) (lo' := [(0, (2, 3))]) (st' := [(2, a_6), (2, a_6), (2, 3)]) rfl ?_
  refine jcallI hF (c_X5_init hG a_6 (by first | assumption | omega) (by omega) (by omega)) MW_X5_init rfl (by omega) wd_160 wd_161 (by decide +kernel) [(2, a_6), (2, 3)] rfl rfl (by decide) (Nat.le_of_ble_eq_true rfl) ⟨Nat.le_of_ble_eq_true rfl, Nat.le_of_ble_eq_true rfl⟩ (kXV (fun kd_7 ln_7 m_7 sz_7 hE_7 h_7 => ?_))
  have hEE_7 : EXT kd ln sz kd_7 ln_7 sz_7 := (hEE_6).tr hE_7
  have hkN7 : kd_6 7 = 7 := by have w := hkA; rw [haN] at w; exact w
  obtain ⟨t1, ⟨t2, t3, t4, t5, t6, t7⟩, t8, t9, t10, t11⟩ := h_7
  have hsn : ((sz_6 : Nat) : Int) = 8 := by omega
  rw [hsn] at t2 t6 t7 t8 t9 t10
  rw [haN] at t2 t3 t4 t5
  have hmn7 : ∀ j : Int, m_6 7 j = dfl 6 j.toNat := fun j => by rw [← haN]; exact hmnA j
  have hfr : ∀ b j : Int, b < 7 → m_7 b j = mP2 b j := fun b j w => (t11 b j (by omega) (by omega)).trans (hmoA b j (by omega))
  have hk3y := (hE_7.2 3 (by omega)).1.trans hk3x
  have hE2 := hEA.tr hE_7
  have hKN : ∀ a : Int, 7 ≤ a → a < 10 → kd_7 a = kdH a ∧ (20 ≤ kdH a → ln_7 a = lnH a) := fun a q1 q2 => by
    rcases (show a = 7 ∨ a = 8 ∨ a = 9 by omega) with rfl | rfl | rfl
    · exact ⟨(hE_7.2 7 (by omega)).1.trans hkN7, fun w => absurd w (by decide)⟩
    · exact ⟨t8, fun w => absurd w (by decide)⟩
    · exact ⟨t9, fun _ => t10⟩
  refine jputF hF hn 12 8 2 8 rfl (by decide) (by decide) rfl wd_334 (by decide +kernel) rfl rfl (Or.inr (Or.inr (Or.inr (Or.inl ⟨_, rfl⟩)))) (by first | assumption | omega) (fun h => by cases h) ?_
  obtain ⟨mP3, hmP3⟩ : ∃ q : Int → Int → Int, q = (set2 m_7 3 8 a_6) := ⟨_, rfl⟩
  rw [← hmP3]
  have hH3 := HSJ.grp (M := mP3) (N := [(3, 8, 7), (8, 0, 9), (7, 3, 0), (7, 4, 0), (7, 5, 0)]) (k := 8) hH2 (by decide) hE2 (show _ = 10 from by omega) hKN (fun b j w1 w2 => by rw [hmP3]; exact (if_neg w2).trans (hfr b j w1)) (by decide) (by rw [hmP3]; exact fmq1 (s2_s.trans haN) (fmq1 ((s2_a (by decide)).trans t6) (fmq1 ((s2_a (by decide)).trans (t3.trans (hmn7 3))) (fmq1 ((s2_a (by decide)).trans (t4.trans (hmn7 4))) (fmq1 ((s2_a (by decide)).trans (t5.trans (hmn7 5))) (fmq0)))))) rfl (fun w => absurd w (by decide))
  have hk3n := hk3y
  clear hH2 hmP3 haN hw0 hE2 hfr hk3x hz0 hkN7
  refine jblk hF [(.aload_n 0, 1)] (by decide +kernel) (pc' := 77) (lo' := [(0, (2, 3))]) (st' := [(2, 3)]) rfl ?_
  refine jnew hF 3 (by decide) okT_3 wd_192 wd_193 wd_106 (by decide +kernel) ⟨Nat.le_of_ble_eq_true rfl, Nat.le_of_ble_eq_true rfl⟩ ?_
  obtain ⟨kd_8, hkd_8⟩ : ∃ q : Int → Nat, q = upK kd_7 ((sz_7 : Nat) : Int) (4) := ⟨_, rfl⟩
  obtain ⟨m_8, hm_8⟩ : ∃ q : Int → Int → Int, q = newO 3 mP3 ((sz_7 : Nat) : Int) := ⟨_, rfl⟩
  obtain ⟨sz_8, hsz_8⟩ : ∃ q : Nat, q = sz_7 + 1 := ⟨_, rfl⟩
  obtain ⟨a_8, ha_8⟩ : ∃ q : Int, q = ((sz_7 : Nat) : Int) := ⟨_, rfl⟩
  rw [← hkd_8, ← hm_8, ← hsz_8]
  rw [← ha_8]
  have hk_8 : kd_8 a_8 = 4 := by rw [ha_8, hkd_8]; exact if_pos rfl
  have hE_8 : EXT kd_7 ln_7 sz_7 kd_8 ln_7 sz_8 := by rw [hsz_8, hkd_8]; exact EXT.k _
  have hEE_8 : EXT kd ln sz kd_8 ln_7 sz_8 := (hEE_7).tr hE_8
  have hmo_8 : ∀ b j : Int, b ≠ a_8 → m_8 b j = mP3 b j := fun b j q => by rw [hm_8]; exact newO_o j (by rw [← ha_8]; exact q)
  have hmn_8 : ∀ j : Int, m_8 a_8 j = dfl 3 j.toNat := fun j => by rw [hm_8, ha_8]; exact newO_s j
  have hmoA := hmo_8
  have hmnA := hmn_8
  have hEA := hE_8
  have hkA := hk_8
  have haA := ha_8
  have hszA := hsz_8
  have hEEA := hEE_8
  have hz0 := hH3.1
  have haN : a_8 = 10 := by omega
  obtain ⟨w0, hw0⟩ : ∃ x : Int, x = a_8 := ⟨_, rfl⟩
  have hk3x := (hEA.2 3 (by omega)).1.trans hk3n
  refine jblk hF [(.dup, 1)] (by decide +kernel) (pc' := 81) (lo' := [(0, (2, 3))]) (st' := [(2, a_8), (2, a_8), (2, 3)]) rfl ?_
  refine jcallI hF (c_X2_init hG a_8 (by first | assumption | omega) (by omega) (by omega)) MW_X2_init rfl (by omega) wd_194 wd_195 (by decide +kernel) [(2, a_8), (2, 3)] rfl rfl (by decide) (Nat.le_of_ble_eq_true rfl) ⟨Nat.le_of_ble_eq_true rfl, Nat.le_of_ble_eq_true rfl⟩ (kXV (fun kd_9 ln_9 m_9 sz_9 hE_9 h_9 => ?_))
  have hEE_9 : EXT kd ln sz kd_9 ln_9 sz_9 := (hEE_8).tr hE_9
  have hkN7 : kd_8 10 = 4 := by have w := hkA; rw [haN] at w; exact w
  obtain ⟨t1, t2, t3, t4⟩ := h_9
  have hsn : ((sz_8 : Nat) : Int) = 11 := by omega
  have hrw : RW1 10 11 PX2_init 3 kd_9 ln_9 m_9 := by rw [← haN, ← hsn]; exact t2
  have hfr : ∀ b j : Int, b < 10 → m_9 b j = mP3 b j := fun b j w => (t3 b j (by omega) (by omega)).trans (hmoA b j (by omega))
  have hk3y := (hE_9.2 3 (by omega)).1.trans hk3x
  have hE2 := hEA.tr hE_9
  have hKN := hrw.k (n := 10) (n' := 14) (c := 4) rfl (by rw [← haN]; exact hkA) hE_9 (by omega) rfl (by decide) (by decide) (by decide) (by decide)
  refine jputF hF hn 12 9 2 9 rfl (by decide) (by decide) rfl wd_335 (by decide +kernel) rfl rfl (Or.inr (Or.inr (Or.inr (Or.inl ⟨_, rfl⟩)))) (by first | assumption | omega) (fun h => by cases h) ?_
  obtain ⟨mP4, hmP4⟩ : ∃ q : Int → Int → Int, q = (set2 m_9 3 9 a_8) := ⟨_, rfl⟩
  rw [← hmP4]
  have hH4 := HSJ.grp (M := mP4) (N := [(3, 9, 10), (10, 0, 11), (10, 1, 12), (10, 2, 13)]) (k := 9) hH3 (by decide) hE2 (show _ = 14 from by omega) hKN (fun b j w1 w2 => by rw [hmP4]; exact (if_neg w2).trans (hfr b j w1)) (by decide) (by rw [hmP4]; exact fmq1 (s2_s.trans haN) (fmq1 ((s2_a (by decide)).trans (hrw.r 0 0 21 40 (by decide) rfl _ _ rfl rfl)) (fmq1 ((s2_a (by decide)).trans (hrw.r 1 1 21 200 (by decide) rfl _ _ rfl rfl)) (fmq1 ((s2_a (by decide)).trans (hrw.r 2 2 21 200 (by decide) rfl _ _ rfl rfl)) (fmq0))))) rfl (fun w => absurd w (by decide))
  have hk3n := hk3y
  clear hH3 hmP4 haN hw0 hE2 hfr hk3x hz0 hkN7
  refine jblk hF [(.aload_n 0, 1)] (by decide +kernel) (pc' := 88) (lo' := [(0, (2, 3))]) (st' := [(2, 3)]) rfl ?_
  refine jnew hF 7 (by decide) okT_7 wd_211 wd_212 wd_107 (by decide +kernel) ⟨Nat.le_of_ble_eq_true rfl, Nat.le_of_ble_eq_true rfl⟩ ?_
  obtain ⟨kd_10, hkd_10⟩ : ∃ q : Int → Nat, q = upK kd_9 ((sz_9 : Nat) : Int) (8) := ⟨_, rfl⟩
  obtain ⟨m_10, hm_10⟩ : ∃ q : Int → Int → Int, q = newO 7 mP4 ((sz_9 : Nat) : Int) := ⟨_, rfl⟩
  obtain ⟨sz_10, hsz_10⟩ : ∃ q : Nat, q = sz_9 + 1 := ⟨_, rfl⟩
  obtain ⟨a_10, ha_10⟩ : ∃ q : Int, q = ((sz_9 : Nat) : Int) := ⟨_, rfl⟩
  rw [← hkd_10, ← hm_10, ← hsz_10]
  rw [← ha_10]
  have hk_10 : kd_10 a_10 = 8 := by rw [ha_10, hkd_10]; exact if_pos rfl
  have hE_10 : EXT kd_9 ln_9 sz_9 kd_10 ln_9 sz_10 := by rw [hsz_10, hkd_10]; exact EXT.k _
  have hEE_10 : EXT kd ln sz kd_10 ln_9 sz_10 := (hEE_9).tr hE_10
  have hmo_10 : ∀ b j : Int, b ≠ a_10 → m_10 b j = mP4 b j := fun b j q => by rw [hm_10]; exact newO_o j (by rw [← ha_10]; exact q)
  have hmn_10 : ∀ j : Int, m_10 a_10 j = dfl 7 j.toNat := fun j => by rw [hm_10, ha_10]; exact newO_s j
  have hmoA := hmo_10
  have hmnA := hmn_10
  have hEA := hE_10
  have hkA := hk_10
  have haA := ha_10
  have hszA := hsz_10
  have hEEA := hEE_10
  have hz0 := hH4.1
  have haN : a_10 = 14 := by omega
  obtain ⟨w0, hw0⟩ : ∃ x : Int, x = a_10 := ⟨_, rfl⟩
  have hk3x := (hEA.2 3 (by omega)).1.trans hk3n
  refine jblk hF [(.dup, 1)] (by decide +kernel) (pc' := 92) (lo' := [(0, (2, 3))]) (st' := [(2, a_10), (2, a_10), (2, 3)]) rfl ?_
  refine jcallI hF (c_X6_init hG a_10 (by first | assumption | omega) (by omega) (by omega)) MW_X6_init rfl (by omega) wd_213 wd_214 (by decide +kernel) [(2, a_10), (2, 3)] rfl rfl (by decide) (Nat.le_of_ble_eq_true rfl) ⟨Nat.le_of_ble_eq_true rfl, Nat.le_of_ble_eq_true rfl⟩ (kXV (fun kd_11 ln_11 m_11 sz_11 hE_11 h_11 => ?_))
  have hEE_11 : EXT kd ln sz kd_11 ln_11 sz_11 := (hEE_10).tr hE_11
  have hkN7 : kd_10 14 = 8 := by have w := hkA; rw [haN] at w; exact w
  obtain ⟨t1, t2, t3, t4⟩ := h_11
  have hsn : ((sz_10 : Nat) : Int) = 15 := by omega
  have hrw : RW1 14 15 PX6_init 7 kd_11 ln_11 m_11 := by rw [← haN, ← hsn]; exact t2
  have hfr : ∀ b j : Int, b < 14 → m_11 b j = mP4 b j := fun b j w => (t3 b j (by omega) (by omega)).trans (hmoA b j (by omega))
  have hk3y := (hE_11.2 3 (by omega)).1.trans hk3x
  have hE2 := hEA.tr hE_11
  have hKN := hrw.k (n := 14) (n' := 22) (c := 8) rfl (by rw [← haN]; exact hkA) hE_11 (by omega) rfl (by decide) (by decide) (by decide) (by decide)
  refine jputF hF hn 12 10 2 10 rfl (by decide) (by decide) rfl wd_336 (by decide +kernel) rfl rfl (Or.inr (Or.inr (Or.inr (Or.inl ⟨_, rfl⟩)))) (by first | assumption | omega) (fun h => by cases h) ?_
  obtain ⟨mP5, hmP5⟩ : ∃ q : Int → Int → Int, q = (set2 m_11 3 10 a_10) := ⟨_, rfl⟩
  rw [← hmP5]
  have hH5 := HSJ.grp (M := mP5) (N := [(3, 10, 14), (14, 0, 15), (14, 1, 16), (14, 2, 17), (14, 3, 18), (14, 4, 19), (14, 5, 20), (14, 6, 21)]) (k := 10) hH4 (by decide) hE2 (show _ = 22 from by omega) hKN (fun b j w1 w2 => by rw [hmP5]; exact (if_neg w2).trans (hfr b j w1)) (by decide) (by rw [hmP5]; exact fmq1 (s2_s.trans haN) (fmq1 ((s2_a (by decide)).trans (hrw.r 0 0 21 40 (by decide) rfl _ _ rfl rfl)) (fmq1 ((s2_a (by decide)).trans (hrw.r 1 1 20 4 (by decide) rfl _ _ rfl rfl)) (fmq1 ((s2_a (by decide)).trans (hrw.r 2 2 20 4 (by decide) rfl _ _ rfl rfl)) (fmq1 ((s2_a (by decide)).trans (hrw.r 3 3 21 4 (by decide) rfl _ _ rfl rfl)) (fmq1 ((s2_a (by decide)).trans (hrw.r 4 4 20 4 (by decide) rfl _ _ rfl rfl)) (fmq1 ((s2_a (by decide)).trans (hrw.r 5 5 20 4 (by decide) rfl _ _ rfl rfl)) (fmq1 ((s2_a (by decide)).trans (hrw.r 6 6 21 4 (by decide) rfl _ _ rfl rfl)) (fmq0))))))))) rfl (fun w => absurd w (by decide))
  have hk3n := hk3y
  clear hH4 hmP5 haN hw0 hE2 hfr hk3x hz0 hkN7
  refine jblk hF [(.aload_n 0, 1)] (by decide +kernel) (pc' := 99) (lo' := [(0, (2, 3))]) (st' := [(2, 3)]) rfl ?_
  refine jnew hF 5 (by decide) okT_5 wd_256 wd_257 wd_108 (by decide +kernel) ⟨Nat.le_of_ble_eq_true rfl, Nat.le_of_ble_eq_true rfl⟩ ?_
  obtain ⟨kd_12, hkd_12⟩ : ∃ q : Int → Nat, q = upK kd_11 ((sz_11 : Nat) : Int) (6) := ⟨_, rfl⟩
  obtain ⟨m_12, hm_12⟩ : ∃ q : Int → Int → Int, q = newO 5 mP5 ((sz_11 : Nat) : Int) := ⟨_, rfl⟩
  obtain ⟨sz_12, hsz_12⟩ : ∃ q : Nat, q = sz_11 + 1 := ⟨_, rfl⟩
  obtain ⟨a_12, ha_12⟩ : ∃ q : Int, q = ((sz_11 : Nat) : Int) := ⟨_, rfl⟩
  rw [← hkd_12, ← hm_12, ← hsz_12]
  rw [← ha_12]
  have hk_12 : kd_12 a_12 = 6 := by rw [ha_12, hkd_12]; exact if_pos rfl
  have hE_12 : EXT kd_11 ln_11 sz_11 kd_12 ln_11 sz_12 := by rw [hsz_12, hkd_12]; exact EXT.k _
  have hEE_12 : EXT kd ln sz kd_12 ln_11 sz_12 := (hEE_11).tr hE_12
  have hmo_12 : ∀ b j : Int, b ≠ a_12 → m_12 b j = mP5 b j := fun b j q => by rw [hm_12]; exact newO_o j (by rw [← ha_12]; exact q)
  have hmn_12 : ∀ j : Int, m_12 a_12 j = dfl 5 j.toNat := fun j => by rw [hm_12, ha_12]; exact newO_s j
  have hmoA := hmo_12
  have hmnA := hmn_12
  have hEA := hE_12
  have hkA := hk_12
  have haA := ha_12
  have hszA := hsz_12
  have hEEA := hEE_12
  have hz0 := hH5.1
  have haN : a_12 = 22 := by omega
  obtain ⟨w0, hw0⟩ : ∃ x : Int, x = a_12 := ⟨_, rfl⟩
  have hk3x := (hEA.2 3 (by omega)).1.trans hk3n
  refine jblk hF [(.dup, 1)] (by decide +kernel) (pc' := 103) (lo' := [(0, (2, 3))]) (st' := [(2, a_12), (2, a_12), (2, 3)]) rfl ?_
  refine jcallI hF (c_X4_init hG a_12 (by first | assumption | omega) (by omega) (by omega)) MW_X4_init rfl (by omega) wd_258 wd_259 (by decide +kernel) [(2, a_12), (2, 3)] rfl rfl (by decide) (Nat.le_of_ble_eq_true rfl) ⟨Nat.le_of_ble_eq_true rfl, Nat.le_of_ble_eq_true rfl⟩ (kXV (fun kd_13 ln_13 m_13 sz_13 hE_13 h_13 => ?_))
  have hEE_13 : EXT kd ln sz kd_13 ln_13 sz_13 := (hEE_12).tr hE_13
  have hkN7 : kd_12 22 = 6 := by have w := hkA; rw [haN] at w; exact w
  obtain ⟨t1, t2, t3, t4⟩ := h_13
  have hsn : ((sz_12 : Nat) : Int) = 23 := by omega
  have hrw : RW1 22 23 PX4_init 4 kd_13 ln_13 m_13 := by rw [← haN, ← hsn]; exact t2
  have hfr : ∀ b j : Int, b < 22 → m_13 b j = mP5 b j := fun b j w => (t3 b j (by omega) (by omega)).trans (hmoA b j (by omega))
  have hk3y := (hE_13.2 3 (by omega)).1.trans hk3x
  have hE2 := hEA.tr hE_13
  have hKN := hrw.k (n := 22) (n' := 27) (c := 6) rfl (by rw [← haN]; exact hkA) hE_13 (by omega) rfl (by decide) (by decide) (by decide) (by decide)
  refine jputF hF hn 12 11 2 11 rfl (by decide) (by decide) rfl wd_337 (by decide +kernel) rfl rfl (Or.inr (Or.inr (Or.inr (Or.inl ⟨_, rfl⟩)))) (by first | assumption | omega) (fun h => by cases h) ?_
  obtain ⟨mP6, hmP6⟩ : ∃ q : Int → Int → Int, q = (set2 m_13 3 11 a_12) := ⟨_, rfl⟩
  rw [← hmP6]
  have hH6 := HSJ.grp (M := mP6) (N := [(3, 11, 22), (22, 0, 23), (22, 1, 24), (22, 2, 25), (22, 3, 26)]) (k := 11) hH5 (by decide) hE2 (show _ = 27 from by omega) hKN (fun b j w1 w2 => by rw [hmP6]; exact (if_neg w2).trans (hfr b j w1)) (by decide) (by rw [hmP6]; exact fmq1 (s2_s.trans haN) (fmq1 ((s2_a (by decide)).trans (hrw.r 0 0 21 40 (by decide) rfl _ _ rfl rfl)) (fmq1 ((s2_a (by decide)).trans (hrw.r 1 1 21 280 (by decide) rfl _ _ rfl rfl)) (fmq1 ((s2_a (by decide)).trans (hrw.r 2 2 20 40 (by decide) rfl _ _ rfl rfl)) (fmq1 ((s2_a (by decide)).trans (hrw.r 3 3 21 5 (by decide) rfl _ _ rfl rfl)) (fmq0)))))) rfl (fun w => absurd w (by decide))
  have hk3n := hk3y
  clear hH5 hmP6 haN hw0 hE2 hfr hk3x hz0 hkN7
  refine jblk hF [(.aload_n 0, 1)] (by decide +kernel) (pc' := 110) (lo' := [(0, (2, 3))]) (st' := [(2, 3)]) rfl ?_
  refine jnew hF 0 (by decide) okT_0 wd_300 wd_301 wd_111 (by decide +kernel) ⟨Nat.le_of_ble_eq_true rfl, Nat.le_of_ble_eq_true rfl⟩ ?_
  obtain ⟨kd_14, hkd_14⟩ : ∃ q : Int → Nat, q = upK kd_13 ((sz_13 : Nat) : Int) (1) := ⟨_, rfl⟩
  obtain ⟨m_14, hm_14⟩ : ∃ q : Int → Int → Int, q = newO 0 mP6 ((sz_13 : Nat) : Int) := ⟨_, rfl⟩
  obtain ⟨sz_14, hsz_14⟩ : ∃ q : Nat, q = sz_13 + 1 := ⟨_, rfl⟩
  obtain ⟨a_14, ha_14⟩ : ∃ q : Int, q = ((sz_13 : Nat) : Int) := ⟨_, rfl⟩
  rw [← hkd_14, ← hm_14, ← hsz_14]
  rw [← ha_14]
  have hk_14 : kd_14 a_14 = 1 := by rw [ha_14, hkd_14]; exact if_pos rfl
  have hE_14 : EXT kd_13 ln_13 sz_13 kd_14 ln_13 sz_14 := by rw [hsz_14, hkd_14]; exact EXT.k _
  have hEE_14 : EXT kd ln sz kd_14 ln_13 sz_14 := (hEE_13).tr hE_14
  have hmo_14 : ∀ b j : Int, b ≠ a_14 → m_14 b j = mP6 b j := fun b j q => by rw [hm_14]; exact newO_o j (by rw [← ha_14]; exact q)
  have hmn_14 : ∀ j : Int, m_14 a_14 j = dfl 0 j.toNat := fun j => by rw [hm_14, ha_14]; exact newO_s j
  have hmoA := hmo_14
  have hmnA := hmn_14
  have hEA := hE_14
  have hkA := hk_14
  have haA := ha_14
  have hszA := hsz_14
  have hEEA := hEE_14
  have hz0 := hH6.1
  have haN : a_14 = 27 := by omega
  obtain ⟨w0, hw0⟩ : ∃ x : Int, x = a_14 := ⟨_, rfl⟩
  have hk3x := (hEA.2 3 (by omega)).1.trans hk3n
  refine jblk hF [(.dup, 1)] (by decide +kernel) (pc' := 114) (lo' := [(0, (2, 3))]) (st' := [(2, a_14), (2, a_14), (2, 3)]) rfl ?_
  refine jcallI hF (c_Jx4a65c_init_da8c8 hG a_14 (by assumption) (by first | assumption | omega) (by omega)) MW_Jx4a65c_init_da8c8 rfl (by omega) wd_302 wd_303 (by decide +kernel) [(2, a_14), (2, 3)] rfl rfl (by decide) (Nat.le_of_ble_eq_true rfl) ⟨Nat.le_of_ble_eq_true rfl, Nat.le_of_ble_eq_true rfl⟩ (kMV (fun m_15 h_16 => ?_))
  have hkN7 : kd_14 27 = 1 := by have w := hkA; rw [haN] at w; exact w
  have hct := h_16
  rw [haN] at hct
  have hmn7 : ∀ j : Int, m_14 27 j = dfl 0 j.toNat := fun j => by rw [← haN]; exact hmnA j
  have hfr : ∀ b j : Int, b < 27 → m_15 b j = mP6 b j := fun b j w => by rw [hct, s2_a (by omega), s2_a (by omega)]; exact hmoA b j (by omega)
  have hk3y := hk3x
  have hE2 := hEA
  refine jputF hF hn 12 12 2 12 rfl (by decide) (by decide) rfl wd_338 (by decide +kernel) rfl rfl (Or.inr (Or.inr (Or.inr (Or.inl ⟨_, rfl⟩)))) (by first | assumption | omega) (fun h => by cases h) ?_
  obtain ⟨mP7, hmP7⟩ : ∃ q : Int → Int → Int, q = (set2 m_15 3 12 a_14) := ⟨_, rfl⟩
  rw [← hmP7]
  have hH7 := HSJ.grp (M := mP7) (N := [(3, 12, 27), (27, 0, 0), (27, 1, 1), (27, 2, 0)]) (k := 12) hH6 (by decide) hE2 (show _ = 28 from by omega) (fun a q1 q2 => by rw [show a = 27 by omega]; exact ⟨hkN7, fun w => absurd w (by decide)⟩) (fun b j w1 w2 => by rw [hmP7]; exact (if_neg w2).trans (hfr b j w1)) (by decide) (by rw [hmP7]; exact fmq1 (s2_s.trans haN) (fmq1 (by rw [s2_a (by decide), hct, s2_k (by decide), s2_s]) (fmq1 (by rw [s2_a (by decide), hct, s2_s]) (fmq1 (by rw [s2_a (by decide), hct, s2_k (by decide), s2_k (by decide)]; exact hmn7 2) (fmq0))))) rfl (fun w => absurd w (by decide))
  have hk3n := hk3y
  clear hH6 hmP7 haN hw0 hE2 hfr hk3x hz0 hkN7
  refine jblk hF [(.aload_n 0, 1)] (by decide +kernel) (pc' := 121) (lo' := [(0, (2, 3))]) (st' := [(2, 3)]) rfl ?_
  refine jnew hF 0 (by decide) okT_0 wd_300 wd_301 wd_111 (by decide +kernel) ⟨Nat.le_of_ble_eq_true rfl, Nat.le_of_ble_eq_true rfl⟩ ?_
  obtain ⟨kd_17, hkd_17⟩ : ∃ q : Int → Nat, q = upK kd_14 ((sz_14 : Nat) : Int) (1) := ⟨_, rfl⟩
  obtain ⟨m_17, hm_17⟩ : ∃ q : Int → Int → Int, q = newO 0 mP7 ((sz_14 : Nat) : Int) := ⟨_, rfl⟩
  obtain ⟨sz_17, hsz_17⟩ : ∃ q : Nat, q = sz_14 + 1 := ⟨_, rfl⟩
  obtain ⟨a_17, ha_17⟩ : ∃ q : Int, q = ((sz_14 : Nat) : Int) := ⟨_, rfl⟩
  rw [← hkd_17, ← hm_17, ← hsz_17]
  rw [← ha_17]
  have hk_17 : kd_17 a_17 = 1 := by rw [ha_17, hkd_17]; exact if_pos rfl
  have hE_17 : EXT kd_14 ln_13 sz_14 kd_17 ln_13 sz_17 := by rw [hsz_17, hkd_17]; exact EXT.k _
  have hEE_17 : EXT kd ln sz kd_17 ln_13 sz_17 := (hEE_14).tr hE_17
  have hmo_17 : ∀ b j : Int, b ≠ a_17 → m_17 b j = mP7 b j := fun b j q => by rw [hm_17]; exact newO_o j (by rw [← ha_17]; exact q)
  have hmn_17 : ∀ j : Int, m_17 a_17 j = dfl 0 j.toNat := fun j => by rw [hm_17, ha_17]; exact newO_s j
  have hmoA := hmo_17
  have hmnA := hmn_17
  have hEA := hE_17
  have hkA := hk_17
  have haA := ha_17
  have hszA := hsz_17
  have hEEA := hEE_17
  have hz0 := hH7.1
  have haN : a_17 = 28 := by omega
  obtain ⟨w0, hw0⟩ : ∃ x : Int, x = a_17 := ⟨_, rfl⟩
  have hk3x := (hEA.2 3 (by omega)).1.trans hk3n
  refine jblk hF [(.dup, 1)] (by decide +kernel) (pc' := 125) (lo' := [(0, (2, 3))]) (st' := [(2, a_17), (2, a_17), (2, 3)]) rfl ?_
  refine jcallI hF (c_Jx4a65c_init_da8c8 hG a_17 (by assumption) (by first | assumption | omega) (by omega)) MW_Jx4a65c_init_da8c8 rfl (by omega) wd_302 wd_303 (by decide +kernel) [(2, a_17), (2, 3)] rfl rfl (by decide) (Nat.le_of_ble_eq_true rfl) ⟨Nat.le_of_ble_eq_true rfl, Nat.le_of_ble_eq_true rfl⟩ (kMV (fun m_18 h_19 => ?_))
  have hkN7 : kd_17 28 = 1 := by have w := hkA; rw [haN] at w; exact w
  have hct := h_19
  rw [haN] at hct
  have hmn7 : ∀ j : Int, m_17 28 j = dfl 0 j.toNat := fun j => by rw [← haN]; exact hmnA j
  have hfr : ∀ b j : Int, b < 28 → m_18 b j = mP7 b j := fun b j w => by rw [hct, s2_a (by omega), s2_a (by omega)]; exact hmoA b j (by omega)
  have hk3y := hk3x
  have hE2 := hEA
  refine jputF hF hn 12 13 2 13 rfl (by decide) (by decide) rfl wd_339 (by decide +kernel) rfl rfl (Or.inr (Or.inr (Or.inr (Or.inl ⟨_, rfl⟩)))) (by first | assumption | omega) (fun h => by cases h) ?_
  obtain ⟨mP8, hmP8⟩ : ∃ q : Int → Int → Int, q = (set2 m_18 3 13 a_17) := ⟨_, rfl⟩
  rw [← hmP8]
  have hH8 := HSJ.grp (M := mP8) (N := [(3, 13, 28), (28, 0, 0), (28, 1, 1), (28, 2, 0)]) (k := 13) hH7 (by decide) hE2 (show _ = 29 from by omega) (fun a q1 q2 => by rw [show a = 28 by omega]; exact ⟨hkN7, fun w => absurd w (by decide)⟩) (fun b j w1 w2 => by rw [hmP8]; exact (if_neg w2).trans (hfr b j w1)) (by decide) (by rw [hmP8]; exact fmq1 (s2_s.trans haN) (fmq1 (by rw [s2_a (by decide), hct, s2_k (by decide), s2_s]) (fmq1 (by rw [s2_a (by decide), hct, s2_s]) (fmq1 (by rw [s2_a (by decide), hct, s2_k (by decide), s2_k (by decide)]; exact hmn7 2) (fmq0))))) rfl (fun w => absurd w (by decide))
  have hk3n := hk3y
  clear hH7 hmP8 haN hw0 hE2 hfr hk3x hz0 hkN7
  refine jblk hF [(.aload_n 0, 1)] (by decide +kernel) (pc' := 132) (lo' := [(0, (2, 3))]) (st' := [(2, 3)]) rfl ?_
  refine jnew hF 0 (by decide) okT_0 wd_300 wd_301 wd_111 (by decide +kernel) ⟨Nat.le_of_ble_eq_true rfl, Nat.le_of_ble_eq_true rfl⟩ ?_
  obtain ⟨kd_20, hkd_20⟩ : ∃ q : Int → Nat, q = upK kd_17 ((sz_17 : Nat) : Int) (1) := ⟨_, rfl⟩
  obtain ⟨m_20, hm_20⟩ : ∃ q : Int → Int → Int, q = newO 0 mP8 ((sz_17 : Nat) : Int) := ⟨_, rfl⟩
  obtain ⟨sz_20, hsz_20⟩ : ∃ q : Nat, q = sz_17 + 1 := ⟨_, rfl⟩
  obtain ⟨a_20, ha_20⟩ : ∃ q : Int, q = ((sz_17 : Nat) : Int) := ⟨_, rfl⟩
  rw [← hkd_20, ← hm_20, ← hsz_20]
  rw [← ha_20]
  have hk_20 : kd_20 a_20 = 1 := by rw [ha_20, hkd_20]; exact if_pos rfl
  have hE_20 : EXT kd_17 ln_13 sz_17 kd_20 ln_13 sz_20 := by rw [hsz_20, hkd_20]; exact EXT.k _
  have hEE_20 : EXT kd ln sz kd_20 ln_13 sz_20 := (hEE_17).tr hE_20
  have hmo_20 : ∀ b j : Int, b ≠ a_20 → m_20 b j = mP8 b j := fun b j q => by rw [hm_20]; exact newO_o j (by rw [← ha_20]; exact q)
  have hmn_20 : ∀ j : Int, m_20 a_20 j = dfl 0 j.toNat := fun j => by rw [hm_20, ha_20]; exact newO_s j
  have hmoA := hmo_20
  have hmnA := hmn_20
  have hEA := hE_20
  have hkA := hk_20
  have haA := ha_20
  have hszA := hsz_20
  have hEEA := hEE_20
  have hz0 := hH8.1
  have haN : a_20 = 29 := by omega
  obtain ⟨w0, hw0⟩ : ∃ x : Int, x = a_20 := ⟨_, rfl⟩
  have hk3x := (hEA.2 3 (by omega)).1.trans hk3n
  refine jblk hF [(.dup, 1)] (by decide +kernel) (pc' := 136) (lo' := [(0, (2, 3))]) (st' := [(2, a_20), (2, a_20), (2, 3)]) rfl ?_
  refine jcallI hF (c_Jx4a65c_init_da8c8 hG a_20 (by assumption) (by first | assumption | omega) (by omega)) MW_Jx4a65c_init_da8c8 rfl (by omega) wd_302 wd_303 (by decide +kernel) [(2, a_20), (2, 3)] rfl rfl (by decide) (Nat.le_of_ble_eq_true rfl) ⟨Nat.le_of_ble_eq_true rfl, Nat.le_of_ble_eq_true rfl⟩ (kMV (fun m_21 h_22 => ?_))
  have hkN7 : kd_20 29 = 1 := by have w := hkA; rw [haN] at w; exact w
  have hct := h_22
  rw [haN] at hct
  have hmn7 : ∀ j : Int, m_20 29 j = dfl 0 j.toNat := fun j => by rw [← haN]; exact hmnA j
  have hfr : ∀ b j : Int, b < 29 → m_21 b j = mP8 b j := fun b j w => by rw [hct, s2_a (by omega), s2_a (by omega)]; exact hmoA b j (by omega)
  have hk3y := hk3x
  have hE2 := hEA
  refine jputF hF hn 12 14 2 14 rfl (by decide) (by decide) rfl wd_340 (by decide +kernel) rfl rfl (Or.inr (Or.inr (Or.inr (Or.inl ⟨_, rfl⟩)))) (by first | assumption | omega) (fun h => by cases h) ?_
  obtain ⟨mP9, hmP9⟩ : ∃ q : Int → Int → Int, q = (set2 m_21 3 14 a_20) := ⟨_, rfl⟩
  rw [← hmP9]
  have hH9 := HSJ.grp (M := mP9) (N := [(3, 14, 29), (29, 0, 0), (29, 1, 1), (29, 2, 0)]) (k := 14) hH8 (by decide) hE2 (show _ = 30 from by omega) (fun a q1 q2 => by rw [show a = 29 by omega]; exact ⟨hkN7, fun w => absurd w (by decide)⟩) (fun b j w1 w2 => by rw [hmP9]; exact (if_neg w2).trans (hfr b j w1)) (by decide) (by rw [hmP9]; exact fmq1 (s2_s.trans haN) (fmq1 (by rw [s2_a (by decide), hct, s2_k (by decide), s2_s]) (fmq1 (by rw [s2_a (by decide), hct, s2_s]) (fmq1 (by rw [s2_a (by decide), hct, s2_k (by decide), s2_k (by decide)]; exact hmn7 2) (fmq0))))) rfl (fun w => absurd w (by decide))
  have hk3n := hk3y
  clear hH8 hmP9 haN hw0 hE2 hfr hk3x hz0 hkN7
  refine jblk hF [(.aload_n 0, 1)] (by decide +kernel) (pc' := 143) (lo' := [(0, (2, 3))]) (st' := [(2, 3)]) rfl ?_
  refine jnew hF 0 (by decide) okT_0 wd_300 wd_301 wd_111 (by decide +kernel) ⟨Nat.le_of_ble_eq_true rfl, Nat.le_of_ble_eq_true rfl⟩ ?_
  obtain ⟨kd_23, hkd_23⟩ : ∃ q : Int → Nat, q = upK kd_20 ((sz_20 : Nat) : Int) (1) := ⟨_, rfl⟩
  obtain ⟨m_23, hm_23⟩ : ∃ q : Int → Int → Int, q = newO 0 mP9 ((sz_20 : Nat) : Int) := ⟨_, rfl⟩
  obtain ⟨sz_23, hsz_23⟩ : ∃ q : Nat, q = sz_20 + 1 := ⟨_, rfl⟩
  obtain ⟨a_23, ha_23⟩ : ∃ q : Int, q = ((sz_20 : Nat) : Int) := ⟨_, rfl⟩
  rw [← hkd_23, ← hm_23, ← hsz_23]
  rw [← ha_23]
  have hk_23 : kd_23 a_23 = 1 := by rw [ha_23, hkd_23]; exact if_pos rfl
  have hE_23 : EXT kd_20 ln_13 sz_20 kd_23 ln_13 sz_23 := by rw [hsz_23, hkd_23]; exact EXT.k _
  have hEE_23 : EXT kd ln sz kd_23 ln_13 sz_23 := (hEE_20).tr hE_23
  have hmo_23 : ∀ b j : Int, b ≠ a_23 → m_23 b j = mP9 b j := fun b j q => by rw [hm_23]; exact newO_o j (by rw [← ha_23]; exact q)
  have hmn_23 : ∀ j : Int, m_23 a_23 j = dfl 0 j.toNat := fun j => by rw [hm_23, ha_23]; exact newO_s j
  have hmoA := hmo_23
  have hmnA := hmn_23
  have hEA := hE_23
  have hkA := hk_23
  have haA := ha_23
  have hszA := hsz_23
  have hEEA := hEE_23
  have hz0 := hH9.1
  have haN : a_23 = 30 := by omega
  obtain ⟨w0, hw0⟩ : ∃ x : Int, x = a_23 := ⟨_, rfl⟩
  have hk3x := (hEA.2 3 (by omega)).1.trans hk3n
  refine jblk hF [(.dup, 1)] (by decide +kernel) (pc' := 147) (lo' := [(0, (2, 3))]) (st' := [(2, a_23), (2, a_23), (2, 3)]) rfl ?_
  refine jcallI hF (c_Jx4a65c_init_da8c8 hG a_23 (by assumption) (by first | assumption | omega) (by omega)) MW_Jx4a65c_init_da8c8 rfl (by omega) wd_302 wd_303 (by decide +kernel) [(2, a_23), (2, 3)] rfl rfl (by decide) (Nat.le_of_ble_eq_true rfl) ⟨Nat.le_of_ble_eq_true rfl, Nat.le_of_ble_eq_true rfl⟩ (kMV (fun m_24 h_25 => ?_))
  have hkN7 : kd_23 30 = 1 := by have w := hkA; rw [haN] at w; exact w
  have hct := h_25
  rw [haN] at hct
  have hmn7 : ∀ j : Int, m_23 30 j = dfl 0 j.toNat := fun j => by rw [← haN]; exact hmnA j
  have hfr : ∀ b j : Int, b < 30 → m_24 b j = mP9 b j := fun b j w => by rw [hct, s2_a (by omega), s2_a (by omega)]; exact hmoA b j (by omega)
  have hk3y := hk3x
  have hE2 := hEA
  refine jputF hF hn 12 15 2 15 rfl (by decide) (by decide) rfl wd_341 (by decide +kernel) rfl rfl (Or.inr (Or.inr (Or.inr (Or.inl ⟨_, rfl⟩)))) (by first | assumption | omega) (fun h => by cases h) ?_
  obtain ⟨mP10, hmP10⟩ : ∃ q : Int → Int → Int, q = (set2 m_24 3 15 a_23) := ⟨_, rfl⟩
  rw [← hmP10]
  have hH10 := HSJ.grp (M := mP10) (N := [(3, 15, 30), (30, 0, 0), (30, 1, 1), (30, 2, 0)]) (k := 15) hH9 (by decide) hE2 (show _ = 31 from by omega) (fun a q1 q2 => by rw [show a = 30 by omega]; exact ⟨hkN7, fun w => absurd w (by decide)⟩) (fun b j w1 w2 => by rw [hmP10]; exact (if_neg w2).trans (hfr b j w1)) (by decide) (by rw [hmP10]; exact fmq1 (s2_s.trans haN) (fmq1 (by rw [s2_a (by decide), hct, s2_k (by decide), s2_s]) (fmq1 (by rw [s2_a (by decide), hct, s2_s]) (fmq1 (by rw [s2_a (by decide), hct, s2_k (by decide), s2_k (by decide)]; exact hmn7 2) (fmq0))))) rfl (fun w => absurd w (by decide))
  have hk3n := hk3y
  clear hH9 hmP10 haN hw0 hE2 hfr hk3x hz0 hkN7
  refine jblk hF [(.aload_n 0, 1)] (by decide +kernel) (pc' := 154) (lo' := [(0, (2, 3))]) (st' := [(2, 3)]) rfl ?_
  refine jnew hF 0 (by decide) okT_0 wd_300 wd_301 wd_111 (by decide +kernel) ⟨Nat.le_of_ble_eq_true rfl, Nat.le_of_ble_eq_true rfl⟩ ?_
  obtain ⟨kd_26, hkd_26⟩ : ∃ q : Int → Nat, q = upK kd_23 ((sz_23 : Nat) : Int) (1) := ⟨_, rfl⟩
  obtain ⟨m_26, hm_26⟩ : ∃ q : Int → Int → Int, q = newO 0 mP10 ((sz_23 : Nat) : Int) := ⟨_, rfl⟩
  obtain ⟨sz_26, hsz_26⟩ : ∃ q : Nat, q = sz_23 + 1 := ⟨_, rfl⟩
  obtain ⟨a_26, ha_26⟩ : ∃ q : Int, q = ((sz_23 : Nat) : Int) := ⟨_, rfl⟩
  rw [← hkd_26, ← hm_26, ← hsz_26]
  rw [← ha_26]
  have hk_26 : kd_26 a_26 = 1 := by rw [ha_26, hkd_26]; exact if_pos rfl
  have hE_26 : EXT kd_23 ln_13 sz_23 kd_26 ln_13 sz_26 := by rw [hsz_26, hkd_26]; exact EXT.k _
  have hEE_26 : EXT kd ln sz kd_26 ln_13 sz_26 := (hEE_23).tr hE_26
  have hmo_26 : ∀ b j : Int, b ≠ a_26 → m_26 b j = mP10 b j := fun b j q => by rw [hm_26]; exact newO_o j (by rw [← ha_26]; exact q)
  have hmn_26 : ∀ j : Int, m_26 a_26 j = dfl 0 j.toNat := fun j => by rw [hm_26, ha_26]; exact newO_s j
  have hmoA := hmo_26
  have hmnA := hmn_26
  have hEA := hE_26
  have hkA := hk_26
  have haA := ha_26
  have hszA := hsz_26
  have hEEA := hEE_26
  have hz0 := hH10.1
  have haN : a_26 = 31 := by omega
  obtain ⟨w0, hw0⟩ : ∃ x : Int, x = a_26 := ⟨_, rfl⟩
  have hk3x := (hEA.2 3 (by omega)).1.trans hk3n
  refine jblk hF [(.dup, 1)] (by decide +kernel) (pc' := 158) (lo' := [(0, (2, 3))]) (st' := [(2, a_26), (2, a_26), (2, 3)]) rfl ?_
  refine jcallI hF (c_Jx4a65c_init_da8c8 hG a_26 (by assumption) (by first | assumption | omega) (by omega)) MW_Jx4a65c_init_da8c8 rfl (by omega) wd_302 wd_303 (by decide +kernel) [(2, a_26), (2, 3)] rfl rfl (by decide) (Nat.le_of_ble_eq_true rfl) ⟨Nat.le_of_ble_eq_true rfl, Nat.le_of_ble_eq_true rfl⟩ (kMV (fun m_27 h_28 => ?_))
  have hkN7 : kd_26 31 = 1 := by have w := hkA; rw [haN] at w; exact w
  have hct := h_28
  rw [haN] at hct
  have hmn7 : ∀ j : Int, m_26 31 j = dfl 0 j.toNat := fun j => by rw [← haN]; exact hmnA j
  have hfr : ∀ b j : Int, b < 31 → m_27 b j = mP10 b j := fun b j w => by rw [hct, s2_a (by omega), s2_a (by omega)]; exact hmoA b j (by omega)
  have hk3y := hk3x
  have hE2 := hEA
  refine jputF hF hn 12 16 2 16 rfl (by decide) (by decide) rfl wd_342 (by decide +kernel) rfl rfl (Or.inr (Or.inr (Or.inr (Or.inl ⟨_, rfl⟩)))) (by first | assumption | omega) (fun h => by cases h) ?_
  obtain ⟨mP11, hmP11⟩ : ∃ q : Int → Int → Int, q = (set2 m_27 3 16 a_26) := ⟨_, rfl⟩
  rw [← hmP11]
  have hH11 := HSJ.grp (M := mP11) (N := [(3, 16, 31), (31, 0, 0), (31, 1, 1), (31, 2, 0)]) (k := 16) hH10 (by decide) hE2 (show _ = 32 from by omega) (fun a q1 q2 => by rw [show a = 31 by omega]; exact ⟨hkN7, fun w => absurd w (by decide)⟩) (fun b j w1 w2 => by rw [hmP11]; exact (if_neg w2).trans (hfr b j w1)) (by decide) (by rw [hmP11]; exact fmq1 (s2_s.trans haN) (fmq1 (by rw [s2_a (by decide), hct, s2_k (by decide), s2_s]) (fmq1 (by rw [s2_a (by decide), hct, s2_s]) (fmq1 (by rw [s2_a (by decide), hct, s2_k (by decide), s2_k (by decide)]; exact hmn7 2) (fmq0))))) rfl (fun w => absurd w (by decide))
  have hk3n := hk3y
  clear hH10 hmP11 haN hw0 hE2 hfr hk3x hz0 hkN7
  refine jblk hF [(.aload_n 0, 1)] (by decide +kernel) (pc' := 165) (lo' := [(0, (2, 3))]) (st' := [(2, 3)]) rfl ?_
  refine jnew hF 0 (by decide) okT_0 wd_300 wd_301 wd_111 (by decide +kernel) ⟨Nat.le_of_ble_eq_true rfl, Nat.le_of_ble_eq_true rfl⟩ ?_
  obtain ⟨kd_29, hkd_29⟩ : ∃ q : Int → Nat, q = upK kd_26 ((sz_26 : Nat) : Int) (1) := ⟨_, rfl⟩
  obtain ⟨m_29, hm_29⟩ : ∃ q : Int → Int → Int, q = newO 0 mP11 ((sz_26 : Nat) : Int) := ⟨_, rfl⟩
  obtain ⟨sz_29, hsz_29⟩ : ∃ q : Nat, q = sz_26 + 1 := ⟨_, rfl⟩
  obtain ⟨a_29, ha_29⟩ : ∃ q : Int, q = ((sz_26 : Nat) : Int) := ⟨_, rfl⟩
  rw [← hkd_29, ← hm_29, ← hsz_29]
  rw [← ha_29]
  have hk_29 : kd_29 a_29 = 1 := by rw [ha_29, hkd_29]; exact if_pos rfl
  have hE_29 : EXT kd_26 ln_13 sz_26 kd_29 ln_13 sz_29 := by rw [hsz_29, hkd_29]; exact EXT.k _
  have hEE_29 : EXT kd ln sz kd_29 ln_13 sz_29 := (hEE_26).tr hE_29
  have hmo_29 : ∀ b j : Int, b ≠ a_29 → m_29 b j = mP11 b j := fun b j q => by rw [hm_29]; exact newO_o j (by rw [← ha_29]; exact q)
  have hmn_29 : ∀ j : Int, m_29 a_29 j = dfl 0 j.toNat := fun j => by rw [hm_29, ha_29]; exact newO_s j
  have hmoA := hmo_29
  have hmnA := hmn_29
  have hEA := hE_29
  have hkA := hk_29
  have haA := ha_29
  have hszA := hsz_29
  have hEEA := hEE_29
  have hz0 := hH11.1
  have haN : a_29 = 32 := by omega
  obtain ⟨w0, hw0⟩ : ∃ x : Int, x = a_29 := ⟨_, rfl⟩
  have hk3x := (hEA.2 3 (by omega)).1.trans hk3n
  refine jblk hF [(.dup, 1)] (by decide +kernel) (pc' := 169) (lo' := [(0, (2, 3))]) (st' := [(2, a_29), (2, a_29), (2, 3)]) rfl ?_
  refine jcallI hF (c_Jx4a65c_init_da8c8 hG a_29 (by assumption) (by first | assumption | omega) (by omega)) MW_Jx4a65c_init_da8c8 rfl (by omega) wd_302 wd_303 (by decide +kernel) [(2, a_29), (2, 3)] rfl rfl (by decide) (Nat.le_of_ble_eq_true rfl) ⟨Nat.le_of_ble_eq_true rfl, Nat.le_of_ble_eq_true rfl⟩ (kMV (fun m_30 h_31 => ?_))
  have hkN7 : kd_29 32 = 1 := by have w := hkA; rw [haN] at w; exact w
  have hct := h_31
  rw [haN] at hct
  have hmn7 : ∀ j : Int, m_29 32 j = dfl 0 j.toNat := fun j => by rw [← haN]; exact hmnA j
  have hfr : ∀ b j : Int, b < 32 → m_30 b j = mP11 b j := fun b j w => by rw [hct, s2_a (by omega), s2_a (by omega)]; exact hmoA b j (by omega)
  have hk3y := hk3x
  have hE2 := hEA
  refine jputF hF hn 12 17 2 17 rfl (by decide) (by decide) rfl wd_343 (by decide +kernel) rfl rfl (Or.inr (Or.inr (Or.inr (Or.inl ⟨_, rfl⟩)))) (by first | assumption | omega) (fun h => by cases h) ?_
  obtain ⟨mP12, hmP12⟩ : ∃ q : Int → Int → Int, q = (set2 m_30 3 17 a_29) := ⟨_, rfl⟩
  rw [← hmP12]
  have hH12 := HSJ.grp (M := mP12) (N := [(3, 17, 32), (32, 0, 0), (32, 1, 1), (32, 2, 0)]) (k := 17) hH11 (by decide) hE2 (show _ = 33 from by omega) (fun a q1 q2 => by rw [show a = 32 by omega]; exact ⟨hkN7, fun w => absurd w (by decide)⟩) (fun b j w1 w2 => by rw [hmP12]; exact (if_neg w2).trans (hfr b j w1)) (by decide) (by rw [hmP12]; exact fmq1 (s2_s.trans haN) (fmq1 (by rw [s2_a (by decide), hct, s2_k (by decide), s2_s]) (fmq1 (by rw [s2_a (by decide), hct, s2_s]) (fmq1 (by rw [s2_a (by decide), hct, s2_k (by decide), s2_k (by decide)]; exact hmn7 2) (fmq0))))) rfl (fun w => absurd w (by decide))
  have hk3n := hk3y
  clear hH11 hmP12 haN hw0 hE2 hfr hk3x hz0 hkN7
  refine jblk hF [(.aload_n 0, 1)] (by decide +kernel) (pc' := 176) (lo' := [(0, (2, 3))]) (st' := [(2, 3)]) rfl ?_
  refine jnew hF 0 (by decide) okT_0 wd_300 wd_301 wd_111 (by decide +kernel) ⟨Nat.le_of_ble_eq_true rfl, Nat.le_of_ble_eq_true rfl⟩ ?_
  obtain ⟨kd_32, hkd_32⟩ : ∃ q : Int → Nat, q = upK kd_29 ((sz_29 : Nat) : Int) (1) := ⟨_, rfl⟩
  obtain ⟨m_32, hm_32⟩ : ∃ q : Int → Int → Int, q = newO 0 mP12 ((sz_29 : Nat) : Int) := ⟨_, rfl⟩
  obtain ⟨sz_32, hsz_32⟩ : ∃ q : Nat, q = sz_29 + 1 := ⟨_, rfl⟩
  obtain ⟨a_32, ha_32⟩ : ∃ q : Int, q = ((sz_29 : Nat) : Int) := ⟨_, rfl⟩
  rw [← hkd_32, ← hm_32, ← hsz_32]
  rw [← ha_32]
  have hk_32 : kd_32 a_32 = 1 := by rw [ha_32, hkd_32]; exact if_pos rfl
  have hE_32 : EXT kd_29 ln_13 sz_29 kd_32 ln_13 sz_32 := by rw [hsz_32, hkd_32]; exact EXT.k _
  have hEE_32 : EXT kd ln sz kd_32 ln_13 sz_32 := (hEE_29).tr hE_32
  have hmo_32 : ∀ b j : Int, b ≠ a_32 → m_32 b j = mP12 b j := fun b j q => by rw [hm_32]; exact newO_o j (by rw [← ha_32]; exact q)
  have hmn_32 : ∀ j : Int, m_32 a_32 j = dfl 0 j.toNat := fun j => by rw [hm_32, ha_32]; exact newO_s j
  have hmoA := hmo_32
  have hmnA := hmn_32
  have hEA := hE_32
  have hkA := hk_32
  have haA := ha_32
  have hszA := hsz_32
  have hEEA := hEE_32
  have hz0 := hH12.1
  have haN : a_32 = 33 := by omega
  obtain ⟨w0, hw0⟩ : ∃ x : Int, x = a_32 := ⟨_, rfl⟩
  have hk3x := (hEA.2 3 (by omega)).1.trans hk3n
  refine jblk hF [(.dup, 1)] (by decide +kernel) (pc' := 180) (lo' := [(0, (2, 3))]) (st' := [(2, a_32), (2, a_32), (2, 3)]) rfl ?_
  refine jcallI hF (c_Jx4a65c_init_da8c8 hG a_32 (by assumption) (by first | assumption | omega) (by omega)) MW_Jx4a65c_init_da8c8 rfl (by omega) wd_302 wd_303 (by decide +kernel) [(2, a_32), (2, 3)] rfl rfl (by decide) (Nat.le_of_ble_eq_true rfl) ⟨Nat.le_of_ble_eq_true rfl, Nat.le_of_ble_eq_true rfl⟩ (kMV (fun m_33 h_34 => ?_))
  have hkN7 : kd_32 33 = 1 := by have w := hkA; rw [haN] at w; exact w
  have hct := h_34
  rw [haN] at hct
  have hmn7 : ∀ j : Int, m_32 33 j = dfl 0 j.toNat := fun j => by rw [← haN]; exact hmnA j
  have hfr : ∀ b j : Int, b < 33 → m_33 b j = mP12 b j := fun b j w => by rw [hct, s2_a (by omega), s2_a (by omega)]; exact hmoA b j (by omega)
  have hk3y := hk3x
  have hE2 := hEA
  refine jputF hF hn 12 18 2 18 rfl (by decide) (by decide) rfl wd_344 (by decide +kernel) rfl rfl (Or.inr (Or.inr (Or.inr (Or.inl ⟨_, rfl⟩)))) (by first | assumption | omega) (fun h => by cases h) ?_
  obtain ⟨mP13, hmP13⟩ : ∃ q : Int → Int → Int, q = (set2 m_33 3 18 a_32) := ⟨_, rfl⟩
  rw [← hmP13]
  have hH13 := HSJ.grp (M := mP13) (N := [(3, 18, 33), (33, 0, 0), (33, 1, 1), (33, 2, 0)]) (k := 18) hH12 (by decide) hE2 (show _ = 34 from by omega) (fun a q1 q2 => by rw [show a = 33 by omega]; exact ⟨hkN7, fun w => absurd w (by decide)⟩) (fun b j w1 w2 => by rw [hmP13]; exact (if_neg w2).trans (hfr b j w1)) (by decide) (by rw [hmP13]; exact fmq1 (s2_s.trans haN) (fmq1 (by rw [s2_a (by decide), hct, s2_k (by decide), s2_s]) (fmq1 (by rw [s2_a (by decide), hct, s2_s]) (fmq1 (by rw [s2_a (by decide), hct, s2_k (by decide), s2_k (by decide)]; exact hmn7 2) (fmq0))))) rfl (fun w => absurd w (by decide))
  have hk3n := hk3y
  clear hH12 hmP13 haN hw0 hE2 hfr hk3x hz0 hkN7
  refine jblk hF [(.aload_n 0, 1)] (by decide +kernel) (pc' := 187) (lo' := [(0, (2, 3))]) (st' := [(2, 3)]) rfl ?_
  refine jnew hF 0 (by decide) okT_0 wd_300 wd_301 wd_111 (by decide +kernel) ⟨Nat.le_of_ble_eq_true rfl, Nat.le_of_ble_eq_true rfl⟩ ?_
  obtain ⟨kd_35, hkd_35⟩ : ∃ q : Int → Nat, q = upK kd_32 ((sz_32 : Nat) : Int) (1) := ⟨_, rfl⟩
  obtain ⟨m_35, hm_35⟩ : ∃ q : Int → Int → Int, q = newO 0 mP13 ((sz_32 : Nat) : Int) := ⟨_, rfl⟩
  obtain ⟨sz_35, hsz_35⟩ : ∃ q : Nat, q = sz_32 + 1 := ⟨_, rfl⟩
  obtain ⟨a_35, ha_35⟩ : ∃ q : Int, q = ((sz_32 : Nat) : Int) := ⟨_, rfl⟩
  rw [← hkd_35, ← hm_35, ← hsz_35]
  rw [← ha_35]
  have hk_35 : kd_35 a_35 = 1 := by rw [ha_35, hkd_35]; exact if_pos rfl
  have hE_35 : EXT kd_32 ln_13 sz_32 kd_35 ln_13 sz_35 := by rw [hsz_35, hkd_35]; exact EXT.k _
  have hEE_35 : EXT kd ln sz kd_35 ln_13 sz_35 := (hEE_32).tr hE_35
  have hmo_35 : ∀ b j : Int, b ≠ a_35 → m_35 b j = mP13 b j := fun b j q => by rw [hm_35]; exact newO_o j (by rw [← ha_35]; exact q)
  have hmn_35 : ∀ j : Int, m_35 a_35 j = dfl 0 j.toNat := fun j => by rw [hm_35, ha_35]; exact newO_s j
  have hmoA := hmo_35
  have hmnA := hmn_35
  have hEA := hE_35
  have hkA := hk_35
  have haA := ha_35
  have hszA := hsz_35
  have hEEA := hEE_35
  have hz0 := hH13.1
  have haN : a_35 = 34 := by omega
  obtain ⟨w0, hw0⟩ : ∃ x : Int, x = a_35 := ⟨_, rfl⟩
  have hk3x := (hEA.2 3 (by omega)).1.trans hk3n
  refine jblk hF [(.dup, 1)] (by decide +kernel) (pc' := 191) (lo' := [(0, (2, 3))]) (st' := [(2, a_35), (2, a_35), (2, 3)]) rfl ?_
  refine jcallI hF (c_Jx4a65c_init_da8c8 hG a_35 (by assumption) (by first | assumption | omega) (by omega)) MW_Jx4a65c_init_da8c8 rfl (by omega) wd_302 wd_303 (by decide +kernel) [(2, a_35), (2, 3)] rfl rfl (by decide) (Nat.le_of_ble_eq_true rfl) ⟨Nat.le_of_ble_eq_true rfl, Nat.le_of_ble_eq_true rfl⟩ (kMV (fun m_36 h_37 => ?_))
  have hkN7 : kd_35 34 = 1 := by have w := hkA; rw [haN] at w; exact w
  have hct := h_37
  rw [haN] at hct
  have hmn7 : ∀ j : Int, m_35 34 j = dfl 0 j.toNat := fun j => by rw [← haN]; exact hmnA j
  have hfr : ∀ b j : Int, b < 34 → m_36 b j = mP13 b j := fun b j w => by rw [hct, s2_a (by omega), s2_a (by omega)]; exact hmoA b j (by omega)
  have hk3y := hk3x
  have hE2 := hEA
  refine jputF hF hn 12 19 2 19 rfl (by decide) (by decide) rfl wd_345 (by decide +kernel) rfl rfl (Or.inr (Or.inr (Or.inr (Or.inl ⟨_, rfl⟩)))) (by first | assumption | omega) (fun h => by cases h) ?_
  obtain ⟨mP14, hmP14⟩ : ∃ q : Int → Int → Int, q = (set2 m_36 3 19 a_35) := ⟨_, rfl⟩
  rw [← hmP14]
  have hH14 := HSJ.grp (M := mP14) (N := [(3, 19, 34), (34, 0, 0), (34, 1, 1), (34, 2, 0)]) (k := 19) hH13 (by decide) hE2 (show _ = 35 from by omega) (fun a q1 q2 => by rw [show a = 34 by omega]; exact ⟨hkN7, fun w => absurd w (by decide)⟩) (fun b j w1 w2 => by rw [hmP14]; exact (if_neg w2).trans (hfr b j w1)) (by decide) (by rw [hmP14]; exact fmq1 (s2_s.trans haN) (fmq1 (by rw [s2_a (by decide), hct, s2_k (by decide), s2_s]) (fmq1 (by rw [s2_a (by decide), hct, s2_s]) (fmq1 (by rw [s2_a (by decide), hct, s2_k (by decide), s2_k (by decide)]; exact hmn7 2) (fmq0))))) rfl (fun w => absurd w (by decide))
  have hk3n := hk3y
  clear hH13 hmP14 haN hw0 hE2 hfr hk3x hz0 hkN7
  refine jwiden (k := 31) (n := 1313) (Nat.le_of_ble_eq_true rfl) (Nat.le_of_ble_eq_true rfl) ?_
  refine jvret hF hr (by decide +kernel) ?_
  exact ⟨rfl, hEE_35, (by exact ⟨by have w := hH14.1; omega, HSJ.fin hH14 hEE_35 (by omega) hk0 hk1 hTN0 (by decide) (by decide) (by decide)⟩)⟩
end
