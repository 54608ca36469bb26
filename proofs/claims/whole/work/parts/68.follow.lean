section
/-! a plan followed: the head's numbers, the lines' -/
theorem TXT.fr {kd : Int → Nat} {ln : Int → Int} {mem m : Int → Int → Int} {t r : Int} {T : Int → Int} {L : Int} (h : TXT kd ln mem t r T L) (h1 : ∀ j : Int, m t j = mem t j) (h2 : ∀ j : Int, m r j = mem r j) : TXT kd ln m t r T L := by
  obtain ⟨g1, g2, g3, g4, g5, g6, g7, g8⟩ := h
  exact ⟨g1, g2, (h1 0).trans g3, (h1 1).trans g4, g5, g6, by rw [← g7]; funext j; exact h2 j, g8⟩
theorem EB.off {m : Int → Int → Int} {a k v : Int} (h : EB m) (ha : a ≠ 7) : EB (set2 m a k v) := by
  show (_ ≤ set2 m a k v 7 3 ∧ _) ∧ (_ ≤ set2 m a k v 7 4 ∧ _) ∧ (_ ≤ set2 m a k v 7 5 ∧ _)
  rw [s2_a (fun q => ha q.symm), s2_a (fun q => ha q.symm), s2_a (fun q => ha q.symm)]
  exact h
def hdc (i : Int) : Int := if i = 3 then 97 else if i = 4 then 111 else if i = 5 then 112 else if i = 6 then 99 else if i = 7 then 109 else 102
def HDX (mem m : Int → Int → Int) (p : Int) (T : Int → Int) (L k : Int) : Prop := (∀ b j : Int, b ≠ 7 → ¬ (b = p ∧ 3 ≤ j ∧ j ≤ 8) → m b j = mem b j) ∧ EB m ∧ ∀ i : Int, 3 ≤ i → i < k → m p i = wA T L (hdc i)
theorem HDX.step {mem m m' : Int → Int → Int} {p k k' v c : Int} {T : Int → Int} {L : Int} (h : HDX mem m p T L k) (hp : p ≠ 7) (hk : 3 ≤ k ∧ k ≤ 8) (hk' : k' = k + 1) (hc : c = hdc k) (hv : v = worV T L (envF 0 0 0) c) (hf : (∀ b j : Int, b ≠ 7 → m' b j = m b j) ∧ EB m') : HDX mem (set2 m' p k v) p T L k' := by
  refine ⟨fun b j q1 q2 => ?_, hf.2.off hp, fun i q1 q2 => ?_⟩
  · have e : ¬ (b = p ∧ j = k) := by omega
    exact (if_neg e).trans ((hf.1 b j q1).trans (h.1 b j q1 q2))
  · by_cases e : i = k
    · subst e; rw [s2_s, hv, hc]; rfl
    · rw [s2_k e, hf.1 p i hp]; exact h.2.2 i q1 (by omega)
theorem HDX.txt {kd : Int → Nat} {ln : Int → Int} {mem m : Int → Int → Int} {p t r k : Int} {T : Int → Int} {L : Int} (h : HDX mem m p T L k) (hT : TXT kd ln mem t r T L) (hk7 : kd 7 = 7) (hkp : kd p = 5) : TXT kd ln m t r T L := by
  have ht : t ≠ 7 ∧ t ≠ p := ⟨fun q => by have := hT.1; rw [q, hk7] at this; omega, fun q => by have := hT.1; rw [q, hkp] at this; omega⟩
  have hr : r ≠ 7 ∧ r ≠ p := ⟨fun q => by have := hT.2.2.2.2.1; rw [q, hk7] at this; omega, fun q => by have := hT.2.2.2.2.1; rw [q, hkp] at this; omega⟩
  exact hT.fr (fun j => h.1 t j ht.1 (by omega)) (fun j => h.1 r j hr.1 (by omega))
def pgD (T : Int → Int) (L a m first n : Int) : Prop := ∀ k : Int, 0 ≤ k → k < n → (0 ≤ wB T L a m first 104 k ∧ wB T L a m first 104 k ≤ 7) ∧ (0 ≤ wB T L a m first 107 k ∧ wB T L a m first 107 k ≤ 3)
def FLF (mem m : Int → Int → Int) (s : Int) : Prop := (∀ b j : Int, b ≠ 7 → (b < s ∨ s + 4 ≤ b) → m b j = mem b j) ∧ EB m
def FLR (m : Int → Int → Int) (s : Int) (T : Int → Int) (L a mm first k : Int) : Prop := m s k = wB T L a mm first 104 k ∧ m (s + 1) k = wB T L a mm first 115 k ∧ m (s + 2) k = wB T L a mm first 107 k ∧ m (s + 3) k = wB T L a mm first 116 k
theorem FLF.put {mem m m' : Int → Int → Int} {s i n v : Int} (h : FLF mem m s) (hs : 7 < s) (hi : s ≤ i ∧ i < s + 4) (hf : (∀ b j : Int, b ≠ 7 → m' b j = m b j) ∧ EB m') : FLF mem (set2 m' i n v) s ∧ set2 m' i n v i n = v ∧ ∀ b j : Int, b ≠ 7 → ¬ (b = i ∧ j = n) → set2 m' i n v b j = m b j :=
  ⟨⟨fun b j q1 q2 => (s2_a (by omega)).trans ((hf.1 b j q1).trans (h.1 b j q1 q2)), hf.2.off (by omega)⟩, s2_s, fun b j q1 q2 => (if_neg q2).trans (hf.1 b j q1)⟩
theorem FLF.txt {kd : Int → Nat} {ln : Int → Int} {mem m : Int → Int → Int} {s t r : Int} {T : Int → Int} {L : Int} (h : FLF mem m s) (hT : TXT kd ln mem t r T L) (hk7 : kd 7 = 7) (ht : t < s ∧ r < s) : TXT kd ln m t r T L := by
  have h7 : t ≠ 7 := fun q => by have := hT.1; rw [q, hk7] at this; omega
  have h8 : r ≠ 7 := fun q => by have := hT.2.2.2.2.1; rw [q, hk7] at this; omega
  exact hT.fr (fun j => h.1 t j h7 (by omega)) (fun j => h.1 r j h8 (by omega))
def WCL (v w : Int) (m m' : Int → Int → Int) : Prop := v = w ∧ (∀ b j : Int, b ≠ 7 → m' b j = m b j) ∧ EB m'
theorem FLF.e {mem m : Int → Int → Int} {s p : Int} (h : FLF mem m s) (hp : 7 < p ∧ p < s) (k : Int) : m p k = mem p k := h.1 p k (by omega) (by omega)
theorem FLF.a {mem m : Int → Int → Int} {s p : Int} (h : FLF mem m s) (hp : 7 < p ∧ p < s) (hs9 : ∀ k : Int, 9 ≤ k → k ≤ 12 → mem p k = s + (k - 9)) (k i : Int) (hk : 9 ≤ k ∧ k ≤ 12) (hi : i = k - 9) : m p k = s + i := by rw [h.e hp, hs9 k hk.1 hk.2, hi]
theorem FLF.putW {mem m m' : Int → Int → Int} {s i n v w : Int} (h : FLF mem m s) (hs : 7 < s) (hi : s ≤ i ∧ i < s + 4) (hc : WCL v w m m') : FLF mem (set2 m' i n v) s ∧ set2 m' i n v i n = w ∧ ∀ b j : Int, b ≠ 7 → ¬ (b = i ∧ j = n) → set2 m' i n v b j = m b j := by
  have q := h.put (n := n) (v := v) hs hi hc.2
  exact ⟨q.1, q.2.1.trans hc.1, q.2.2⟩
theorem FLR.mk {m mb mc md me : Int → Int → Int} {s n : Int} {T : Int → Int} {L a mm first : Int} (hs : 7 < s) (h1 : mb (s + 0) n = wB T L a mm first 104 n) (h2 : mc (s + 1) n = wB T L a mm first 115 n) (h3 : md (s + 2) n = wB T L a mm first 107 n) (h4 : me (s + 3) n = wB T L a mm first 116 n) (e1 : ∀ b j : Int, b ≠ 7 → ¬ (b = s + 0 ∧ j = n) → mb b j = m b j) (e2 : ∀ b j : Int, b ≠ 7 → ¬ (b = s + 1 ∧ j = n) → mc b j = mb b j) (e3 : ∀ b j : Int, b ≠ 7 → ¬ (b = s + 2 ∧ j = n) → md b j = mc b j) (e4 : ∀ b j : Int, b ≠ 7 → ¬ (b = s + 3 ∧ j = n) → me b j = md b j) : FLR me s T L a mm first n ∧ ∀ k : Int, k ≠ n → FLR m s T L a mm first k → FLR me s T L a mm first k := by
  rw [Int.add_zero] at h1
  refine ⟨⟨?_, ?_, ?_, h4⟩, fun k hk w => ?_⟩
  · rw [e4 _ _ (by omega) (by omega), e3 _ _ (by omega) (by omega), e2 _ _ (by omega) (by omega)]; exact h1
  · rw [e4 _ _ (by omega) (by omega), e3 _ _ (by omega) (by omega)]; exact h2
  · rw [e4 _ _ (by omega) (by omega)]; exact h3
  · have e : ∀ b : Int, 7 < b → me b k = m b k := fun b q3 => by rw [e4 _ _ (by omega) (by omega), e3 _ _ (by omega) (by omega), e2 _ _ (by omega) (by omega), e1 _ _ (by omega) (by omega)]
    unfold FLR
    rw [e _ (by omega), e _ (by omega), e _ (by omega), e _ (by omega)]
    exact w
set_option maxHeartbeats 4000000 in
set_option maxRecDepth 100000 in
theorem c_X3_followsHead {l : Launch} {g : GP} (hG : GH g) {kd : Int → Nat} {ln : Int → Int} {mem : Int → Int → Int} {sz : Nat} (p : Int) (t : Int) (hkp : kd p = 5) (hp0 : 0 ≤ p) (hk7 : kd 7 = 7) (r : Int) (T : Int → Int) (L : Int) (hTX : TXT kd ln mem t r T L) (hEB : EB mem) (hfa : (fauP T L).1 = -1) (h12 : 1 ≤ mem p 1 ∧ mem p 1 ≤ 9999 ∧ 2 ≤ mem p 2 ∧ mem p 2 ≤ 40) : MT l g yX3_followsHead cX3_followsHead 3 (some .boolean) 28 0 0 [(2, p), (2, 7), (2, t)] kd ln mem sz (pMB (fun c mem' => ((c ↔ pgH (mem' p 1) (mem' p 2) (mem' p 3) (mem' p 4) (mem' p 5) (mem' p 6) (mem' p 7) (mem' p 8)) ∧ HDX mem mem' p T L 9)) kd ln sz) := by
  refine MT_of hG (by decide +kernel) (Nat.le_of_ble_eq_true rfl) (fun z hF hr hn => ?_)
  have h7 : p ≠ 7 := fun q => by rw [q, hk7] at hkp; omega
  have hL0 := hTX.2.2.2.2.2.2.2.1
  have hd3 : HDX mem mem p T L 3 := ⟨fun b j _ _ => rfl, hEB, fun i h1 h2 => by omega⟩
  refine jblk hF [(.aload_n 0, 1), (.aload_n 1, 1), (.aload_n 2, 1), (.bipush 97, 2), (.iconst 0, 1), (.iconst 0, 1), (.iconst 0, 1)] (by decide +kernel) (pc' := 8) (lo' := [(0, (2, p)), (1, (2, 7)), (2, (2, t))]) (st' := [(0, 0), (0, 0), (0, 0), (0, 97), (2, t), (2, 7), (2, p)]) rfl ?_
  have htx3 := hd3.txt hTX hk7 hkp
  have heb3 := hd3.2.1
  refine jcallV hF (c_X5_worthOf hG t 97 0 0 0 (by assumption) (by exact r) (by exact T) (by exact L) (by assumption) (by assumption) (by assumption) (by decide) (by decide) (by decide) (by decide)) MW_X5_worthOf 6 (by decide) (by first | assumption | omega) wd_772 wd_773 wd_774 (by decide +kernel) [(2, p)] rfl rfl (by decide) (Nat.le_of_ble_eq_true rfl) (by decide) (kMR (fun v_3 m_1 h_2 => ?_))
  have hc3 := h_2
  refine jput hF 4 3 0 3 rfl (by decide) (by decide) rfl wd_698 (by decide +kernel) rfl (Or.inl rfl) (by first | assumption | omega) (fun h => by cases h) ?_
  obtain ⟨n4, hn4⟩ : ∃ q : Int → Int → Int, q = (set2 m_1 p 3 v_3) := ⟨_, rfl⟩
  rw [← hn4]
  have hd4 : HDX mem n4 p T L 4 := by rw [hn4]; exact hd3.step h7 (by decide) (by decide) rfl hc3.1 hc3.2
  refine jblk hF [(.aload_n 0, 1), (.aload_n 1, 1), (.aload_n 2, 1), (.bipush 111, 2), (.iconst 0, 1), (.iconst 0, 1), (.iconst 0, 1)] (by decide +kernel) (pc' := 22) (lo' := [(0, (2, p)), (1, (2, 7)), (2, (2, t))]) (st' := [(0, 0), (0, 0), (0, 0), (0, 111), (2, t), (2, 7), (2, p)]) rfl ?_
  have htx4 := hd4.txt hTX hk7 hkp
  have heb4 := hd4.2.1
  refine jcallV hF (c_X5_worthOf hG t 111 0 0 0 (by assumption) (by exact r) (by exact T) (by exact L) (by assumption) (by assumption) (by assumption) (by decide) (by decide) (by decide) (by decide)) MW_X5_worthOf 6 (by decide) (by first | assumption | omega) wd_772 wd_773 wd_774 (by decide +kernel) [(2, p)] rfl rfl (by decide) (Nat.le_of_ble_eq_true rfl) (by decide) (kMR (fun v_6 m_4 h_5 => ?_))
  have hc4 := h_5
  refine jput hF 4 4 0 4 rfl (by decide) (by decide) rfl wd_700 (by decide +kernel) rfl (Or.inl rfl) (by first | assumption | omega) (fun h => by cases h) ?_
  obtain ⟨n5, hn5⟩ : ∃ q : Int → Int → Int, q = (set2 m_4 p 4 v_6) := ⟨_, rfl⟩
  rw [← hn5]
  have hd5 : HDX mem n5 p T L 5 := by rw [hn5]; exact hd4.step h7 (by decide) (by decide) rfl hc4.1 hc4.2
  refine jblk hF [(.aload_n 0, 1), (.aload_n 1, 1), (.aload_n 2, 1), (.bipush 112, 2), (.iconst 0, 1), (.iconst 0, 1), (.iconst 0, 1)] (by decide +kernel) (pc' := 36) (lo' := [(0, (2, p)), (1, (2, 7)), (2, (2, t))]) (st' := [(0, 0), (0, 0), (0, 0), (0, 112), (2, t), (2, 7), (2, p)]) rfl ?_
  have htx5 := hd5.txt hTX hk7 hkp
  have heb5 := hd5.2.1
  refine jcallV hF (c_X5_worthOf hG t 112 0 0 0 (by assumption) (by exact r) (by exact T) (by exact L) (by assumption) (by assumption) (by assumption) (by decide) (by decide) (by decide) (by decide)) MW_X5_worthOf 6 (by decide) (by first | assumption | omega) wd_772 wd_773 wd_774 (by decide +kernel) [(2, p)] rfl rfl (by decide) (Nat.le_of_ble_eq_true rfl) (by decide) (kMR (fun v_9 m_7 h_8 => ?_))
  have hc5 := h_8
  refine jput hF 4 5 0 5 rfl (by decide) (by decide) rfl wd_703 (by decide +kernel) rfl (Or.inl rfl) (by first | assumption | omega) (fun h => by cases h) ?_
  obtain ⟨n6, hn6⟩ : ∃ q : Int → Int → Int, q = (set2 m_7 p 5 v_9) := ⟨_, rfl⟩
  rw [← hn6]
  have hd6 : HDX mem n6 p T L 6 := by rw [hn6]; exact hd5.step h7 (by decide) (by decide) rfl hc5.1 hc5.2
  refine jblk hF [(.aload_n 0, 1), (.aload_n 1, 1), (.aload_n 2, 1), (.bipush 99, 2), (.iconst 0, 1), (.iconst 0, 1), (.iconst 0, 1)] (by decide +kernel) (pc' := 50) (lo' := [(0, (2, p)), (1, (2, 7)), (2, (2, t))]) (st' := [(0, 0), (0, 0), (0, 0), (0, 99), (2, t), (2, 7), (2, p)]) rfl ?_
  have htx6 := hd6.txt hTX hk7 hkp
  have heb6 := hd6.2.1
  refine jcallV hF (c_X5_worthOf hG t 99 0 0 0 (by assumption) (by exact r) (by exact T) (by exact L) (by assumption) (by assumption) (by assumption) (by decide) (by decide) (by decide) (by decide)) MW_X5_worthOf 6 (by decide) (by first | assumption | omega) wd_772 wd_773 wd_774 (by decide +kernel) [(2, p)] rfl rfl (by decide) (Nat.le_of_ble_eq_true rfl) (by decide) (kMR (fun v_12 m_10 h_11 => ?_))
  have hc6 := h_11
  refine jput hF 4 6 0 6 rfl (by decide) (by decide) rfl wd_704 (by decide +kernel) rfl (Or.inl rfl) (by first | assumption | omega) (fun h => by cases h) ?_
  obtain ⟨n7, hn7⟩ : ∃ q : Int → Int → Int, q = (set2 m_10 p 6 v_12) := ⟨_, rfl⟩
  rw [← hn7]
  have hd7 : HDX mem n7 p T L 7 := by rw [hn7]; exact hd6.step h7 (by decide) (by decide) rfl hc6.1 hc6.2
  refine jblk hF [(.aload_n 0, 1), (.aload_n 1, 1), (.aload_n 2, 1), (.bipush 109, 2), (.iconst 0, 1), (.iconst 0, 1), (.iconst 0, 1)] (by decide +kernel) (pc' := 64) (lo' := [(0, (2, p)), (1, (2, 7)), (2, (2, t))]) (st' := [(0, 0), (0, 0), (0, 0), (0, 109), (2, t), (2, 7), (2, p)]) rfl ?_
  have htx7 := hd7.txt hTX hk7 hkp
  have heb7 := hd7.2.1
  refine jcallV hF (c_X5_worthOf hG t 109 0 0 0 (by assumption) (by exact r) (by exact T) (by exact L) (by assumption) (by assumption) (by assumption) (by decide) (by decide) (by decide) (by decide)) MW_X5_worthOf 6 (by decide) (by first | assumption | omega) wd_772 wd_773 wd_774 (by decide +kernel) [(2, p)] rfl rfl (by decide) (Nat.le_of_ble_eq_true rfl) (by decide) (kMR (fun v_15 m_13 h_14 => ?_))
  have hc7 := h_14
  refine jput hF 4 7 0 7 rfl (by decide) (by decide) rfl wd_707 (by decide +kernel) rfl (Or.inl rfl) (by first | assumption | omega) (fun h => by cases h) ?_
  obtain ⟨n8, hn8⟩ : ∃ q : Int → Int → Int, q = (set2 m_13 p 7 v_15) := ⟨_, rfl⟩
  rw [← hn8]
  have hd8 : HDX mem n8 p T L 8 := by rw [hn8]; exact hd7.step h7 (by decide) (by decide) rfl hc7.1 hc7.2
  refine jblk hF [(.aload_n 0, 1), (.aload_n 1, 1), (.aload_n 2, 1), (.bipush 102, 2), (.iconst 0, 1), (.iconst 0, 1), (.iconst 0, 1)] (by decide +kernel) (pc' := 78) (lo' := [(0, (2, p)), (1, (2, 7)), (2, (2, t))]) (st' := [(0, 0), (0, 0), (0, 0), (0, 102), (2, t), (2, 7), (2, p)]) rfl ?_
  have htx8 := hd8.txt hTX hk7 hkp
  have heb8 := hd8.2.1
  refine jcallV hF (c_X5_worthOf hG t 102 0 0 0 (by assumption) (by exact r) (by exact T) (by exact L) (by assumption) (by assumption) (by assumption) (by decide) (by decide) (by decide) (by decide)) MW_X5_worthOf 6 (by decide) (by first | assumption | omega) wd_772 wd_773 wd_774 (by decide +kernel) [(2, p)] rfl rfl (by decide) (Nat.le_of_ble_eq_true rfl) (by decide) (kMR (fun v_18 m_16 h_17 => ?_))
  have hc8 := h_17
  refine jput hF 4 8 0 8 rfl (by decide) (by decide) rfl wd_708 (by decide +kernel) rfl (Or.inl rfl) (by first | assumption | omega) (fun h => by cases h) ?_
  obtain ⟨n9, hn9⟩ : ∃ q : Int → Int → Int, q = (set2 m_16 p 8 v_18) := ⟨_, rfl⟩
  rw [← hn9]
  have hd9 : HDX mem n9 p T L 9 := by rw [hn9]; exact hd8.step h7 (by decide) (by decide) rfl hc8.1 hc8.2
  have e3 : n9 p 3 = wA T L 97 := hd9.2.2 3 (by decide) (by decide)
  have e4 : n9 p 4 = wA T L 111 := hd9.2.2 4 (by decide) (by decide)
  have e5 : n9 p 5 = wA T L 112 := hd9.2.2 5 (by decide) (by decide)
  have e6 : n9 p 6 = wA T L 99 := hd9.2.2 6 (by decide) (by decide)
  have e7 : n9 p 7 = wA T L 109 := hd9.2.2 7 (by decide) (by decide)
  have e8 : n9 p 8 = wA T L 102 := hd9.2.2 8 (by decide) (by decide)
  have i3 : InI (n9 p 3) := by rw [e3]; exact wA_in _ hL0 hfa
  have i4 : InI (n9 p 4) := by rw [e4]; exact wA_in _ hL0 hfa
  have i5 : InI (n9 p 5) := by rw [e5]; exact wA_in _ hL0 hfa
  have i6 : InI (n9 p 6) := by rw [e6]; exact wA_in _ hL0 hfa
  have i7 : InI (n9 p 7) := by rw [e7]; exact wA_in _ hL0 hfa
  have i8 : InI (n9 p 8) := by rw [e8]; exact wA_in _ hL0 hfa
  have e1 : n9 p 1 = mem p 1 := hd9.1 p 1 h7 (by omega)
  have e2 : n9 p 2 = mem p 2 := hd9.1 p 2 h7 (by omega)
  have hnm : 0 ≤ n9 p 3 → n9 p 3 ≤ 50 → 0 ≤ (n9 p 2 - 1) * n9 p 3 ∧ (n9 p 2 - 1) * n9 p 3 ≤ 39 * 50 := fun q1 q2 => mul_bd (by omega) (by omega)
  refine jblk hF [(.aload_n 0, 1)] (by decide +kernel) (pc' := 85) (lo' := [(0, (2, p)), (1, (2, 7)), (2, (2, t))]) (st' := [(2, p)]) rfl ?_
  refine jget hF 4 3 0 3 rfl (by decide) (by decide) rfl wd_698 (by decide +kernel) (by first | assumption | omega) ?_
  refine jblk hF [(.iconst 1, 1), (.bipush 50, 2)] (by decide +kernel) (pc' := 91) (lo' := [(0, (2, p)), (1, (2, 7)), (2, (2, t))]) (st' := [(0, 50), (0, 1), (0, n9 p 3)]) rfl ?_
  refine jcallSN hF (c_X11_within hG (n9 p 3) 1 50 (by omega) (by decide) (by decide)) MW_X11_within wd_780 wd_392 (by decide +kernel) [] rfl rfl (by decide) (Nat.le_of_ble_eq_true rfl) (by decide) (kB (fun h_19 => ?_) (fun h_19 => ?_))
  · refine jif_eq hF (off := 95) 189 (by decide +kernel) (by decide) (by decide) (fun h => absurd h (by decide)) (fun _ => ?_)
    refine jblk hF [(.aload_n 0, 1)] (by decide +kernel) (pc' := 98) (lo' := [(0, (2, p)), (1, (2, 7)), (2, (2, t))]) (st' := [(2, p)]) rfl ?_
    refine jget hF 4 4 0 4 rfl (by decide) (by decide) rfl wd_700 (by decide +kernel) (by first | assumption | omega) ?_
    refine jblk hF [(.iconst 1, 1), (.iconst 4, 1)] (by decide +kernel) (pc' := 103) (lo' := [(0, (2, p)), (1, (2, 7)), (2, (2, t))]) (st' := [(0, 4), (0, 1), (0, n9 p 4)]) rfl ?_
    refine jcallSN hF (c_X11_within hG (n9 p 4) 1 4 (by omega) (by decide) (by decide)) MW_X11_within wd_780 wd_392 (by decide +kernel) [] rfl rfl (by decide) (Nat.le_of_ble_eq_true rfl) (by decide) (kB (fun h_21 => ?_) (fun h_21 => ?_))
    · refine jif_eq hF (off := 83) 189 (by decide +kernel) (by decide) (by decide) (fun h => absurd h (by decide)) (fun _ => ?_)
      refine jblk hF [(.aload_n 0, 1)] (by decide +kernel) (pc' := 110) (lo' := [(0, (2, p)), (1, (2, 7)), (2, (2, t))]) (st' := [(2, p)]) rfl ?_
      refine jget hF 4 5 0 5 rfl (by decide) (by decide) rfl wd_703 (by decide +kernel) (by first | assumption | omega) ?_
      refine jblk hF [(.iconst 0, 1), (.iconst 5, 1)] (by decide +kernel) (pc' := 115) (lo' := [(0, (2, p)), (1, (2, 7)), (2, (2, t))]) (st' := [(0, 5), (0, 0), (0, n9 p 5)]) rfl ?_
      refine jcallSN hF (c_X11_within hG (n9 p 5) 0 5 (by omega) (by decide) (by decide)) MW_X11_within wd_780 wd_392 (by decide +kernel) [] rfl rfl (by decide) (Nat.le_of_ble_eq_true rfl) (by decide) (kB (fun h_23 => ?_) (fun h_23 => ?_))
      · refine jif_eq hF (off := 71) 189 (by decide +kernel) (by decide) (by decide) (fun h => absurd h (by decide)) (fun _ => ?_)
        refine jblk hF [(.aload_n 0, 1)] (by decide +kernel) (pc' := 122) (lo' := [(0, (2, p)), (1, (2, 7)), (2, (2, t))]) (st' := [(2, p)]) rfl ?_
        refine jget hF 4 6 0 6 rfl (by decide) (by decide) rfl wd_704 (by decide +kernel) (by first | assumption | omega) ?_
        refine jblk hF [(.iconst 0, 1), (.bipush 6, 2), (.aload_n 0, 1)] (by decide +kernel) (pc' := 129) (lo' := [(0, (2, p)), (1, (2, 7)), (2, (2, t))]) (st' := [(2, p), (0, 6), (0, 0), (0, n9 p 6)]) rfl ?_
        refine jget hF 4 5 0 5 rfl (by decide) (by decide) rfl wd_703 (by decide +kernel) (by first | assumption | omega) ?_
        refine jblk hF [(.isub, 1)] (by decide +kernel) (pc' := 133) (lo' := [(0, (2, p)), (1, (2, 7)), (2, (2, t))]) (st' := [(0, 6 - (n9 p 5)), (0, 0), (0, n9 p 6)]) rfl ?_
        refine jcallSN hF (c_X11_within hG (n9 p 6) 0 (6 - (n9 p 5)) (by omega) (by decide) (by omega)) MW_X11_within wd_780 wd_392 (by decide +kernel) [] rfl rfl (by decide) (Nat.le_of_ble_eq_true rfl) (by decide) (kB (fun h_25 => ?_) (fun h_25 => ?_))
        · refine jif_eq hF (off := 53) 189 (by decide +kernel) (by decide) (by decide) (fun h => absurd h (by decide)) (fun _ => ?_)
          refine jblk hF [(.aload_n 0, 1)] (by decide +kernel) (pc' := 140) (lo' := [(0, (2, p)), (1, (2, 7)), (2, (2, t))]) (st' := [(2, p)]) rfl ?_
          refine jget hF 4 7 0 7 rfl (by decide) (by decide) rfl wd_707 (by decide +kernel) (by first | assumption | omega) ?_
          refine jblk hF [(.aload_n 0, 1)] (by decide +kernel) (pc' := 144) (lo' := [(0, (2, p)), (1, (2, 7)), (2, (2, t))]) (st' := [(2, p), (0, n9 p 7)]) rfl ?_
          refine jget hF 4 4 0 4 rfl (by decide) (by decide) rfl wd_700 (by decide +kernel) (by first | assumption | omega) ?_
          refine jblk hF [(.iconst 2, 1), (.iadd, 1), (.bipush 40, 2)] (by decide +kernel) (pc' := 151) (lo' := [(0, (2, p)), (1, (2, 7)), (2, (2, t))]) (st' := [(0, 40), (0, (n9 p 4) + 2), (0, n9 p 7)]) rfl ?_
          refine jcallSN hF (c_X11_within hG (n9 p 7) ((n9 p 4) + 2) 40 (by omega) (by omega) (by decide)) MW_X11_within wd_780 wd_392 (by decide +kernel) [] rfl rfl (by decide) (Nat.le_of_ble_eq_true rfl) (by decide) (kB (fun h_27 => ?_) (fun h_27 => ?_))
          · refine jif_eq hF (off := 35) 189 (by decide +kernel) (by decide) (by decide) (fun h => absurd h (by decide)) (fun _ => ?_)
            refine jblk hF [(.aload_n 0, 1)] (by decide +kernel) (pc' := 158) (lo' := [(0, (2, p)), (1, (2, 7)), (2, (2, t))]) (st' := [(2, p)]) rfl ?_
            refine jget hF 4 8 0 8 rfl (by decide) (by decide) rfl wd_708 (by decide +kernel) (by first | assumption | omega) ?_
            refine jblk hF [(.iconst 0, 1), (.iconst 2, 1)] (by decide +kernel) (pc' := 163) (lo' := [(0, (2, p)), (1, (2, 7)), (2, (2, t))]) (st' := [(0, 2), (0, 0), (0, n9 p 8)]) rfl ?_
            refine jcallSN hF (c_X11_within hG (n9 p 8) 0 2 (by omega) (by decide) (by decide)) MW_X11_within wd_780 wd_392 (by decide +kernel) [] rfl rfl (by decide) (Nat.le_of_ble_eq_true rfl) (by decide) (kB (fun h_29 => ?_) (fun h_29 => ?_))
            · refine jif_eq hF (off := 23) 189 (by decide +kernel) (by decide) (by decide) (fun h => absurd h (by decide)) (fun _ => ?_)
              refine jblk hF [(.aload_n 0, 1), (.aload_n 0, 1)] (by decide +kernel) (pc' := 171) (lo' := [(0, (2, p)), (1, (2, 7)), (2, (2, t))]) (st' := [(2, p), (2, p)]) rfl ?_
              refine jget hF 4 2 0 2 rfl (by decide) (by decide) rfl wd_696 (by decide +kernel) (by first | assumption | omega) ?_
              refine jblk hF [(.iconst 1, 1), (.isub, 1)] (by decide +kernel) (pc' := 176) (lo' := [(0, (2, p)), (1, (2, 7)), (2, (2, t))]) (st' := [(0, (n9 p 2) - 1), (2, p)]) rfl ?_
              refine jcallV hF (c_X3_xOf hG p ((n9 p 2) - 1) (by first | assumption | omega) (by omega) (by omega) (by omega)) MW_X3_xOf 4 (by decide) (by first | assumption | omega) wd_781 wd_782 wd_783 (by decide +kernel) [] rfl rfl (by decide) (Nat.le_of_ble_eq_true rfl) (by decide) (kV ?_)
              refine jblk hF [(.sipush 9999, 3)] (by decide +kernel) (pc' := 182) (lo' := [(0, (2, p)), (1, (2, 7)), (2, (2, t))]) (st' := [(0, 9999), (0, n9 p 1 + ((n9 p 2) - 1) * n9 p 3)]) rfl ?_
              refine jicmp_gt hF (off := 7) 189 (by decide +kernel) (by decide) (by omega) (by decide) (fun h_31 => ?_) (fun h_31 => ?_)
              · refine jblk hF [(.iconst 0, 1)] (by decide +kernel) (pc' := 190) (lo' := [(0, (2, p)), (1, (2, 7)), (2, (2, t))]) (st' := [(0, 0)]) rfl ?_
                refine jzret hF hr (by omega) (by decide +kernel) ?_
                exact lMB0 (by first | exact ⟨⟨fun _ => by omega, fun _ => trivial⟩, hd9⟩ | exact ⟨⟨fun h => h.elim, fun h => absurd h (by omega)⟩, hd9⟩)
              · refine jblk hF [(.iconst 1, 1)] (by decide +kernel) (pc' := 186) (lo' := [(0, (2, p)), (1, (2, 7)), (2, (2, t))]) (st' := [(0, 1)]) rfl ?_
                refine jgoto hF (off := 4) 190 (by decide +kernel) (by decide) ?_
                refine jzret hF hr (by omega) (by decide +kernel) ?_
                exact lMB1 (by first | exact ⟨⟨fun _ => by omega, fun _ => trivial⟩, hd9⟩ | exact ⟨⟨fun h => h.elim, fun h => absurd h (by omega)⟩, hd9⟩)
            · refine jif_eq hF (off := 23) 189 (by decide +kernel) (by decide) (by decide) (fun _ => ?_) (fun h => absurd h (by decide))
              refine jblk hF [(.iconst 0, 1)] (by decide +kernel) (pc' := 190) (lo' := [(0, (2, p)), (1, (2, 7)), (2, (2, t))]) (st' := [(0, 0)]) rfl ?_
              refine jzret hF hr (by omega) (by decide +kernel) ?_
              exact lMB0 (by first | exact ⟨⟨fun _ => by omega, fun _ => trivial⟩, hd9⟩ | exact ⟨⟨fun h => h.elim, fun h => absurd h (by omega)⟩, hd9⟩)
          · refine jif_eq hF (off := 35) 189 (by decide +kernel) (by decide) (by decide) (fun _ => ?_) (fun h => absurd h (by decide))
            refine jblk hF [(.iconst 0, 1)] (by decide +kernel) (pc' := 190) (lo' := [(0, (2, p)), (1, (2, 7)), (2, (2, t))]) (st' := [(0, 0)]) rfl ?_
            refine jzret hF hr (by omega) (by decide +kernel) ?_
            exact lMB0 (by first | exact ⟨⟨fun _ => by omega, fun _ => trivial⟩, hd9⟩ | exact ⟨⟨fun h => h.elim, fun h => absurd h (by omega)⟩, hd9⟩)
        · refine jif_eq hF (off := 53) 189 (by decide +kernel) (by decide) (by decide) (fun _ => ?_) (fun h => absurd h (by decide))
          refine jblk hF [(.iconst 0, 1)] (by decide +kernel) (pc' := 190) (lo' := [(0, (2, p)), (1, (2, 7)), (2, (2, t))]) (st' := [(0, 0)]) rfl ?_
          refine jzret hF hr (by omega) (by decide +kernel) ?_
          exact lMB0 (by first | exact ⟨⟨fun _ => by omega, fun _ => trivial⟩, hd9⟩ | exact ⟨⟨fun h => h.elim, fun h => absurd h (by omega)⟩, hd9⟩)
      · refine jif_eq hF (off := 71) 189 (by decide +kernel) (by decide) (by decide) (fun _ => ?_) (fun h => absurd h (by decide))
        refine jblk hF [(.iconst 0, 1)] (by decide +kernel) (pc' := 190) (lo' := [(0, (2, p)), (1, (2, 7)), (2, (2, t))]) (st' := [(0, 0)]) rfl ?_
        refine jzret hF hr (by omega) (by decide +kernel) ?_
        exact lMB0 (by first | exact ⟨⟨fun _ => by omega, fun _ => trivial⟩, hd9⟩ | exact ⟨⟨fun h => h.elim, fun h => absurd h (by omega)⟩, hd9⟩)
    · refine jif_eq hF (off := 83) 189 (by decide +kernel) (by decide) (by decide) (fun _ => ?_) (fun h => absurd h (by decide))
      refine jblk hF [(.iconst 0, 1)] (by decide +kernel) (pc' := 190) (lo' := [(0, (2, p)), (1, (2, 7)), (2, (2, t))]) (st' := [(0, 0)]) rfl ?_
      refine jzret hF hr (by omega) (by decide +kernel) ?_
      exact lMB0 (by first | exact ⟨⟨fun _ => by omega, fun _ => trivial⟩, hd9⟩ | exact ⟨⟨fun h => h.elim, fun h => absurd h (by omega)⟩, hd9⟩)
  · refine jif_eq hF (off := 95) 189 (by decide +kernel) (by decide) (by decide) (fun _ => ?_) (fun h => absurd h (by decide))
    refine jblk hF [(.iconst 0, 1)] (by decide +kernel) (pc' := 190) (lo' := [(0, (2, p)), (1, (2, 7)), (2, (2, t))]) (st' := [(0, 0)]) rfl ?_
    refine jzret hF hr (by omega) (by decide +kernel) ?_
    exact lMB0 (by first | exact ⟨⟨fun _ => by omega, fun _ => trivial⟩, hd9⟩ | exact ⟨⟨fun h => h.elim, fun h => absurd h (by omega)⟩, hd9⟩)
set_option maxHeartbeats 4000000 in
set_option maxRecDepth 100000 in
theorem c_X3_followsLines {l : Launch} {g : GP} (hG : GH g) {kd : Int → Nat} {ln : Int → Int} {mem : Int → Int → Int} {sz : Nat} (p : Int) (t : Int) (hkp : kd p = 5) (hp0 : 0 ≤ p) (hk7 : kd 7 = 7) (r : Int) (T : Int → Int) (L : Int) (hTX : TXT kd ln mem t r T L) (hEB : EB mem) (hfa : (fauP T L).1 = -1) (s : Int) (hs9 : ∀ k : Int, 9 ≤ k → k ≤ 12 → mem p k = s + (k - 9)) (hka : ∀ i : Int, 0 ≤ i → i ≤ 3 → kd (s + i) = 20 ∧ ln (s + i) = 40) (hlt : 7 < p ∧ p < s ∧ t < s ∧ r < s) (hPB : PB mem p) (hlx : mem p 1 + (mem p 2 - 1) * mem p 3 ≤ 9999) : MT l g yX3_followsLines cX3_followsLines 6 (some .boolean) 28 0 0 [(2, p), (2, 7), (2, t)] kd ln mem sz (pMB (fun c mem' => ((c ↔ pgD T L (mem p 3) (mem p 7) (mem p 1) (mem p 2)) ∧ FLF mem mem' s ∧ (c → ∀ k : Int, 0 ≤ k → k < mem p 2 → FLR mem' s T L (mem p 3) (mem p 7) (mem p 1) k))) kd ln sz) := by
  refine MT_of hG (by decide +kernel) (Nat.le_of_ble_eq_true rfl) (fun z hF hr hn => ?_)
  have hlt2 : 7 < p ∧ p < s := ⟨hlt.1, hlt.2.1⟩
  have hlt3 : t < s ∧ r < s := hlt.2.2
  have h7s : 7 < s := by omega
  have ⟨b1, b2, b3, b4, b5, b6, b7, b8, b9, b10, b11, b12, b13, b14, b15, b16⟩ := hPB
  have hL0 := hTX.2.2.2.2.2.2.2.1
  have hl0 := (hka 0 (by decide) (by decide)).2
  have hl1 := (hka 1 (by decide) (by decide)).2
  have hl2 := (hka 2 (by decide) (by decide)).2
  have hl3 := (hka 3 (by decide) (by decide)).2
  refine jblk hF [(.iconst 0, 1), (.istore_n 3, 1)] (by decide +kernel) (pc' := 2) (lo' := [(3, (0, 0)), (0, (2, p)), (1, (2, 7)), (2, (2, t))]) (st' := []) rfl ?_
  have L_2 : ∀ (fu_3 : Nat) (n : Int) (m : Int → Int → Int), (FLF mem m s) → (0 ≤ n ∧ n ≤ mem p 2) → (∀ k : Int, 0 ≤ k → k < n → FLR m s T L (mem p 3) (mem p 7) (mem p 1) k) → (pgD T L (mem p 3) (mem p 7) (mem p 1) n) →  (mem p 2 - n).toNat < fu_3 → J z g 6 0 0 (QM z g 0 0 (pMB (fun c mem' => ((c ↔ pgD T L (mem p 3) (mem p 7) (mem p 1) (mem p 2)) ∧ FLF mem mem' s ∧ (c → ∀ k : Int, 0 ≤ k → k < mem p 2 → FLR mem' s T L (mem p 3) (mem p 7) (mem p 1) k))) kd ln sz)) 2 [(0, (2, p)), (1, (2, 7)), (2, (2, t)), (3, (0, n))] [] kd ln m sz := by
    intro fu_3
    induction fu_3 with
    | zero => intro n m _ _ _ _ hm; omega
    | succ fu_3 ih_1 =>
      intro n m hfl hn2 hrw hpg hm
      have e1 := hfl.e hlt2 1
      have e2 := hfl.e hlt2 2
      have e3 := hfl.e hlt2 3
      have e7 := hfl.e hlt2 7
      refine jblk hF [(.iload_n 3, 1), (.aload_n 0, 1)] (by decide +kernel) (pc' := 4) (lo' := [(0, (2, p)), (1, (2, 7)), (2, (2, t)), (3, (0, n))]) (st' := [(2, p), (0, n)]) rfl ?_
      refine jget hF 4 2 0 2 rfl (by decide) (by decide) rfl wd_696 (by decide +kernel) (by first | assumption | exact (hka 0 (by decide) (by decide)).1 | exact (hka 1 (by decide) (by decide)).1 | exact (hka 2 (by decide) (by decide)).1 | exact (hka 3 (by decide) (by decide)).1 | omega) ?_
      refine jicmp_ge hF (off := 123) 130 (by decide +kernel) (by decide) (by omega) (by omega) (fun h_4 => ?_) (fun h_4 => ?_)
      · refine jblk hF [(.iconst 1, 1)] (by decide +kernel) (pc' := 131) (lo' := [(0, (2, p)), (1, (2, 7)), (2, (2, t)), (3, (0, n))]) (st' := [(0, 1)]) rfl ?_
        refine jzret hF hr (by omega) (by decide +kernel) ?_
        exact lMB1 (by exact (by rw [show mem p 2 = n by omega]; exact ⟨⟨fun _ => hpg, fun _ => trivial⟩, hfl, fun _ => hrw⟩))
      · have hnb := mul_bd (a := n) (b := mem p 3) (M := 40) (N := 50) (by omega) (by omega)
        have hdv := (ediv_bd n (mem p 7) (by omega)).1 (by omega)
        have hxi : n * mem p 3 ≤ (mem p 2 - 1) * mem p 3 := Int.mul_le_mul_of_nonneg_right (by omega) (by omega)
        refine jblk hF [(.aload_n 0, 1), (.iload_n 3, 1)] (by decide +kernel) (pc' := 12) (lo' := [(0, (2, p)), (1, (2, 7)), (2, (2, t)), (3, (0, n))]) (st' := [(0, n), (2, p)]) rfl ?_
        refine jcallV hF (c_X3_blockOf hG p n (by first | assumption | omega) (by omega) (by omega) (by omega)) MW_X3_blockOf 4 (by decide) (by first | assumption | exact (hka 0 (by decide) (by decide)).1 | exact (hka 1 (by decide) (by decide)).1 | exact (hka 2 (by decide) (by decide)).1 | exact (hka 3 (by decide) (by decide)).1 | omega) wd_789 wd_790 wd_791 (by decide +kernel) [] rfl rfl (by decide) (Nat.le_of_ble_eq_true rfl) (by decide) (kV ?_)
        refine jblk hF [(.istore 4, 2), (.aload_n 0, 1), (.iload_n 3, 1)] (by decide +kernel) (pc' := 19) (lo' := [(4, (0, n / m p 7)), (0, (2, p)), (1, (2, 7)), (2, (2, t)), (3, (0, n))]) (st' := [(0, n), (2, p)]) rfl ?_
        refine jcallV hF (c_X3_xOf hG p n (by first | assumption | omega) (by omega) (by omega) (by omega)) MW_X3_xOf 4 (by decide) (by first | assumption | exact (hka 0 (by decide) (by decide)).1 | exact (hka 1 (by decide) (by decide)).1 | exact (hka 2 (by decide) (by decide)).1 | exact (hka 3 (by decide) (by decide)).1 | omega) wd_781 wd_782 wd_783 (by decide +kernel) [] rfl rfl (by decide) (Nat.le_of_ble_eq_true rfl) (by decide) (kV ?_)
        rw [show n / m p 7 = n / mem p 7 by rw [e7], show m p 1 + n * m p 3 = mem p 1 + n * mem p 3 by rw [e1, e3]]
        refine jblk hF [(.istore 5, 2), (.aload_n 0, 1)] (by decide +kernel) (pc' := 25) (lo' := [(5, (0, mem p 1 + n * mem p 3)), (4, (0, n / mem p 7)), (0, (2, p)), (1, (2, 7)), (2, (2, t)), (3, (0, n))]) (st' := [(2, p)]) rfl ?_
        refine jget hF 4 9 2 9 rfl (by decide) (by decide) rfl wd_710 (by decide +kernel) (by first | assumption | exact (hka 0 (by decide) (by decide)).1 | exact (hka 1 (by decide) (by decide)).1 | exact (hka 2 (by decide) (by decide)).1 | exact (hka 3 (by decide) (by decide)).1 | omega) ?_
        rw [hfl.a hlt2 hs9 9 0 (by decide) (by decide)]
        refine jblk hF [(.iload_n 3, 1), (.aload_n 1, 1), (.aload_n 2, 1), (.bipush 104, 2), (.iload_n 3, 1), (.iload 4, 2), (.iload 5, 2)] (by decide +kernel) (pc' := 38) (lo' := [(5, (0, mem p 1 + n * mem p 3)), (4, (0, n / mem p 7)), (0, (2, p)), (1, (2, 7)), (2, (2, t)), (3, (0, n))]) (st' := [(0, mem p 1 + n * mem p 3), (0, n / mem p 7), (0, n), (0, 104), (2, t), (2, 7), (0, n), (2, s + 0)]) rfl ?_
        refine jcallV hF (c_X5_worthOf hG t 104 n (n / mem p 7) (mem p 1 + n * mem p 3) (by assumption) (by exact r) (by exact T) (by exact L) (by exact hfl.txt hTX hk7 hlt3) (by exact hfl.2) (by assumption) (by decide) (by omega) (by omega) (by omega)) MW_X5_worthOf 6 (by decide) (by first | assumption | omega) wd_772 wd_773 wd_774 (by decide +kernel) [(0, n), (2, s + 0)] rfl rfl (by decide) (Nat.le_of_ble_eq_true rfl) (by decide) (kMR (fun v_7 m_5 h_6 => ?_))
        have hcmb : WCL v_7 (wB T L (mem p 3) (mem p 7) (mem p 1) 104 n) m m_5 := h_6
        clear h_6
        refine jiast hF (by decide +kernel) (by omega) (by first | assumption | exact (hka 0 (by decide) (by decide)).1 | exact (hka 1 (by decide) (by decide)).1 | exact (hka 2 (by decide) (by decide)).1 | exact (hka 3 (by decide) (by decide)).1 | omega) (by omega) (by omega) ?_
        obtain ⟨mb, hmb⟩ : ∃ q : Int → Int → Int, q = (set2 m_5 (s + 0) n v_7) := ⟨_, rfl⟩
        rw [← hmb]
        have hFmb : FLF mem mb s ∧ mb (s + 0) n = wB T L (mem p 3) (mem p 7) (mem p 1) 104 n ∧ ∀ b j : Int, b ≠ 7 → ¬ (b = s + 0 ∧ j = n) → mb b j = m b j := by
          rw [hmb]
          exact hfl.putW h7s ⟨by omega, by omega⟩ hcmb
        have hPmb := hFmb.1
        refine jblk hF [(.aload_n 0, 1)] (by decide +kernel) (pc' := 43) (lo' := [(5, (0, mem p 1 + n * mem p 3)), (4, (0, n / mem p 7)), (0, (2, p)), (1, (2, 7)), (2, (2, t)), (3, (0, n))]) (st' := [(2, p)]) rfl ?_
        refine jget hF 4 10 2 10 rfl (by decide) (by decide) rfl wd_712 (by decide +kernel) (by first | assumption | exact (hka 0 (by decide) (by decide)).1 | exact (hka 1 (by decide) (by decide)).1 | exact (hka 2 (by decide) (by decide)).1 | exact (hka 3 (by decide) (by decide)).1 | omega) ?_
        rw [hPmb.a hlt2 hs9 10 1 (by decide) (by decide)]
        refine jblk hF [(.iload_n 3, 1), (.aload_n 1, 1), (.aload_n 2, 1), (.bipush 115, 2), (.iload_n 3, 1), (.iload 4, 2), (.iload 5, 2)] (by decide +kernel) (pc' := 56) (lo' := [(5, (0, mem p 1 + n * mem p 3)), (4, (0, n / mem p 7)), (0, (2, p)), (1, (2, 7)), (2, (2, t)), (3, (0, n))]) (st' := [(0, mem p 1 + n * mem p 3), (0, n / mem p 7), (0, n), (0, 115), (2, t), (2, 7), (0, n), (2, s + 1)]) rfl ?_
        refine jcallV hF (c_X5_worthOf hG t 115 n (n / mem p 7) (mem p 1 + n * mem p 3) (by assumption) (by exact r) (by exact T) (by exact L) (by exact hPmb.txt hTX hk7 hlt3) (by exact hPmb.2) (by assumption) (by decide) (by omega) (by omega) (by omega)) MW_X5_worthOf 6 (by decide) (by first | assumption | omega) wd_772 wd_773 wd_774 (by decide +kernel) [(0, n), (2, s + 1)] rfl rfl (by decide) (Nat.le_of_ble_eq_true rfl) (by decide) (kMR (fun v_10 m_8 h_9 => ?_))
        have hcmc : WCL v_10 (wB T L (mem p 3) (mem p 7) (mem p 1) 115 n) mb m_8 := h_9
        clear h_9
        refine jiast hF (by decide +kernel) (by omega) (by first | assumption | exact (hka 0 (by decide) (by decide)).1 | exact (hka 1 (by decide) (by decide)).1 | exact (hka 2 (by decide) (by decide)).1 | exact (hka 3 (by decide) (by decide)).1 | omega) (by omega) (by omega) ?_
        obtain ⟨mc, hmc⟩ : ∃ q : Int → Int → Int, q = (set2 m_8 (s + 1) n v_10) := ⟨_, rfl⟩
        rw [← hmc]
        have hFmc : FLF mem mc s ∧ mc (s + 1) n = wB T L (mem p 3) (mem p 7) (mem p 1) 115 n ∧ ∀ b j : Int, b ≠ 7 → ¬ (b = s + 1 ∧ j = n) → mc b j = mb b j := by
          rw [hmc]
          exact hPmb.putW h7s ⟨by omega, by omega⟩ hcmc
        have hPmc := hFmc.1
        refine jblk hF [(.aload_n 0, 1)] (by decide +kernel) (pc' := 61) (lo' := [(5, (0, mem p 1 + n * mem p 3)), (4, (0, n / mem p 7)), (0, (2, p)), (1, (2, 7)), (2, (2, t)), (3, (0, n))]) (st' := [(2, p)]) rfl ?_
        refine jget hF 4 11 2 11 rfl (by decide) (by decide) rfl wd_714 (by decide +kernel) (by first | assumption | exact (hka 0 (by decide) (by decide)).1 | exact (hka 1 (by decide) (by decide)).1 | exact (hka 2 (by decide) (by decide)).1 | exact (hka 3 (by decide) (by decide)).1 | omega) ?_
        rw [hPmc.a hlt2 hs9 11 2 (by decide) (by decide)]
        refine jblk hF [(.iload_n 3, 1), (.aload_n 1, 1), (.aload_n 2, 1), (.bipush 107, 2), (.iload_n 3, 1), (.iload 4, 2), (.iload 5, 2)] (by decide +kernel) (pc' := 74) (lo' := [(5, (0, mem p 1 + n * mem p 3)), (4, (0, n / mem p 7)), (0, (2, p)), (1, (2, 7)), (2, (2, t)), (3, (0, n))]) (st' := [(0, mem p 1 + n * mem p 3), (0, n / mem p 7), (0, n), (0, 107), (2, t), (2, 7), (0, n), (2, s + 2)]) rfl ?_
        refine jcallV hF (c_X5_worthOf hG t 107 n (n / mem p 7) (mem p 1 + n * mem p 3) (by assumption) (by exact r) (by exact T) (by exact L) (by exact hPmc.txt hTX hk7 hlt3) (by exact hPmc.2) (by assumption) (by decide) (by omega) (by omega) (by omega)) MW_X5_worthOf 6 (by decide) (by first | assumption | omega) wd_772 wd_773 wd_774 (by decide +kernel) [(0, n), (2, s + 2)] rfl rfl (by decide) (Nat.le_of_ble_eq_true rfl) (by decide) (kMR (fun v_13 m_11 h_12 => ?_))
        have hcmd : WCL v_13 (wB T L (mem p 3) (mem p 7) (mem p 1) 107 n) mc m_11 := h_12
        clear h_12
        refine jiast hF (by decide +kernel) (by omega) (by first | assumption | exact (hka 0 (by decide) (by decide)).1 | exact (hka 1 (by decide) (by decide)).1 | exact (hka 2 (by decide) (by decide)).1 | exact (hka 3 (by decide) (by decide)).1 | omega) (by omega) (by omega) ?_
        obtain ⟨md, hmd⟩ : ∃ q : Int → Int → Int, q = (set2 m_11 (s + 2) n v_13) := ⟨_, rfl⟩
        rw [← hmd]
        have hFmd : FLF mem md s ∧ md (s + 2) n = wB T L (mem p 3) (mem p 7) (mem p 1) 107 n ∧ ∀ b j : Int, b ≠ 7 → ¬ (b = s + 2 ∧ j = n) → md b j = mc b j := by
          rw [hmd]
          exact hPmc.putW h7s ⟨by omega, by omega⟩ hcmd
        have hPmd := hFmd.1
        refine jblk hF [(.aload_n 0, 1)] (by decide +kernel) (pc' := 79) (lo' := [(5, (0, mem p 1 + n * mem p 3)), (4, (0, n / mem p 7)), (0, (2, p)), (1, (2, 7)), (2, (2, t)), (3, (0, n))]) (st' := [(2, p)]) rfl ?_
        refine jget hF 4 12 2 12 rfl (by decide) (by decide) rfl wd_716 (by decide +kernel) (by first | assumption | exact (hka 0 (by decide) (by decide)).1 | exact (hka 1 (by decide) (by decide)).1 | exact (hka 2 (by decide) (by decide)).1 | exact (hka 3 (by decide) (by decide)).1 | omega) ?_
        rw [hPmd.a hlt2 hs9 12 3 (by decide) (by decide)]
        refine jblk hF [(.iload_n 3, 1), (.aload_n 1, 1), (.aload_n 2, 1), (.bipush 116, 2), (.iload_n 3, 1), (.iload 4, 2), (.iload 5, 2)] (by decide +kernel) (pc' := 92) (lo' := [(5, (0, mem p 1 + n * mem p 3)), (4, (0, n / mem p 7)), (0, (2, p)), (1, (2, 7)), (2, (2, t)), (3, (0, n))]) (st' := [(0, mem p 1 + n * mem p 3), (0, n / mem p 7), (0, n), (0, 116), (2, t), (2, 7), (0, n), (2, s + 3)]) rfl ?_
        refine jcallV hF (c_X5_worthOf hG t 116 n (n / mem p 7) (mem p 1 + n * mem p 3) (by assumption) (by exact r) (by exact T) (by exact L) (by exact hPmd.txt hTX hk7 hlt3) (by exact hPmd.2) (by assumption) (by decide) (by omega) (by omega) (by omega)) MW_X5_worthOf 6 (by decide) (by first | assumption | omega) wd_772 wd_773 wd_774 (by decide +kernel) [(0, n), (2, s + 3)] rfl rfl (by decide) (Nat.le_of_ble_eq_true rfl) (by decide) (kMR (fun v_16 m_14 h_15 => ?_))
        have hcme : WCL v_16 (wB T L (mem p 3) (mem p 7) (mem p 1) 116 n) md m_14 := h_15
        clear h_15
        refine jiast hF (by decide +kernel) (by omega) (by first | assumption | exact (hka 0 (by decide) (by decide)).1 | exact (hka 1 (by decide) (by decide)).1 | exact (hka 2 (by decide) (by decide)).1 | exact (hka 3 (by decide) (by decide)).1 | omega) (by omega) (by omega) ?_
        obtain ⟨me, hme⟩ : ∃ q : Int → Int → Int, q = (set2 m_14 (s + 3) n v_16) := ⟨_, rfl⟩
        rw [← hme]
        have hFme : FLF mem me s ∧ me (s + 3) n = wB T L (mem p 3) (mem p 7) (mem p 1) 116 n ∧ ∀ b j : Int, b ≠ 7 → ¬ (b = s + 3 ∧ j = n) → me b j = md b j := by
          rw [hme]
          exact hPmd.putW h7s ⟨by omega, by omega⟩ hcme
        have hPme := hFme.1
        have me9 : me p 9 = s + 0 := hPme.a hlt2 hs9 9 0 (by decide) (by decide)
        have me11 : me p 11 = s + 2 := hPme.a hlt2 hs9 11 2 (by decide) (by decide)
        have hkc9 : kd (me p 9) = 20 := by rw [me9]; exact (hka 0 (by decide) (by decide)).1
        have hlc9 : ln (me p 9) = 40 := by rw [me9]; exact (hka 0 (by decide) (by decide)).2
        have hkc11 : kd (me p 11) = 20 := by rw [me11]; exact (hka 2 (by decide) (by decide)).1
        have hlc11 : ln (me p 11) = 40 := by rw [me11]; exact (hka 2 (by decide) (by decide)).2
        have hFR := FLR.mk h7s hFmb.2.1 hFmc.2.1 hFmd.2.1 hFme.2.1 hFmb.2.2 hFmc.2.2 hFmd.2.2 hFme.2.2
        have v0 : me (me p 9) n = wB T L (mem p 3) (mem p 7) (mem p 1) 104 n := by rw [me9, Int.add_zero]; exact hFR.1.1
        have v2 : me (me p 11) n = wB T L (mem p 3) (mem p 7) (mem p 1) 107 n := by rw [me11]; exact hFR.1.2.2.1
        have iv0 : InI (me (me p 9) n) := by rw [v0]; exact wB_in _ ⟨by omega, by omega⟩ ⟨by omega, by omega⟩ ⟨by omega, by omega⟩ hL0 hfa
        have iv2 : InI (me (me p 11) n) := by rw [v2]; exact wB_in _ ⟨by omega, by omega⟩ ⟨by omega, by omega⟩ ⟨by omega, by omega⟩ hL0 hfa
        refine jblk hF [(.aload_n 0, 1)] (by decide +kernel) (pc' := 97) (lo' := [(5, (0, mem p 1 + n * mem p 3)), (4, (0, n / mem p 7)), (0, (2, p)), (1, (2, 7)), (2, (2, t)), (3, (0, n))]) (st' := [(2, p)]) rfl ?_
        refine jget hF 4 9 2 9 rfl (by decide) (by decide) rfl wd_710 (by decide +kernel) (by first | assumption | exact (hka 0 (by decide) (by decide)).1 | exact (hka 1 (by decide) (by decide)).1 | exact (hka 2 (by decide) (by decide)).1 | exact (hka 3 (by decide) (by decide)).1 | omega) ?_
        refine jblk hF [(.iload_n 3, 1)] (by decide +kernel) (pc' := 101) (lo' := [(5, (0, mem p 1 + n * mem p 3)), (4, (0, n / mem p 7)), (0, (2, p)), (1, (2, 7)), (2, (2, t)), (3, (0, n))]) (st' := [(0, n), (2, me p 9)]) rfl ?_
        refine jiald hF (by decide +kernel) (by first | assumption | exact (hka 0 (by decide) (by decide)).1 | exact (hka 1 (by decide) (by decide)).1 | exact (hka 2 (by decide) (by decide)).1 | exact (hka 3 (by decide) (by decide)).1 | omega) (by omega) (by omega) ?_
        refine jcallSN hF (c_X11_isHand hG (me (me p 9) n) (by omega)) MW_X11_isHand wd_793 wd_794 (by decide +kernel) [] rfl rfl (by decide) (Nat.le_of_ble_eq_true rfl) (by decide) (kB (fun h_17 => ?_) (fun h_17 => ?_))
        · refine jif_eq hF (off := 17) 122 (by decide +kernel) (by decide) (by decide) (fun h => absurd h (by decide)) (fun _ => ?_)
          refine jblk hF [(.aload_n 0, 1)] (by decide +kernel) (pc' := 109) (lo' := [(5, (0, mem p 1 + n * mem p 3)), (4, (0, n / mem p 7)), (0, (2, p)), (1, (2, 7)), (2, (2, t)), (3, (0, n))]) (st' := [(2, p)]) rfl ?_
          refine jget hF 4 11 2 11 rfl (by decide) (by decide) rfl wd_714 (by decide +kernel) (by first | assumption | exact (hka 0 (by decide) (by decide)).1 | exact (hka 1 (by decide) (by decide)).1 | exact (hka 2 (by decide) (by decide)).1 | exact (hka 3 (by decide) (by decide)).1 | omega) ?_
          refine jblk hF [(.iload_n 3, 1)] (by decide +kernel) (pc' := 113) (lo' := [(5, (0, mem p 1 + n * mem p 3)), (4, (0, n / mem p 7)), (0, (2, p)), (1, (2, 7)), (2, (2, t)), (3, (0, n))]) (st' := [(0, n), (2, me p 11)]) rfl ?_
          refine jiald hF (by decide +kernel) (by first | assumption | exact (hka 0 (by decide) (by decide)).1 | exact (hka 1 (by decide) (by decide)).1 | exact (hka 2 (by decide) (by decide)).1 | exact (hka 3 (by decide) (by decide)).1 | omega) (by omega) (by omega) ?_
          refine jblk hF [(.iconst 0, 1), (.iconst 3, 1)] (by decide +kernel) (pc' := 116) (lo' := [(5, (0, mem p 1 + n * mem p 3)), (4, (0, n / mem p 7)), (0, (2, p)), (1, (2, 7)), (2, (2, t)), (3, (0, n))]) (st' := [(0, 3), (0, 0), (0, me (me p 11) n)]) rfl ?_
          refine jcallSN hF (c_X11_within hG (me (me p 11) n) 0 3 (by omega) (by decide) (by decide)) MW_X11_within wd_780 wd_392 (by decide +kernel) [] rfl rfl (by decide) (Nat.le_of_ble_eq_true rfl) (by decide) (kB (fun h_19 => ?_) (fun h_19 => ?_))
          · refine jif_ne hF (off := 5) 124 (by decide +kernel) (by decide) (by decide) (fun _ => ?_) (fun h => absurd h (by decide))
            refine jblk hF [(.iinc 3 1, 3)] (by decide +kernel) (pc' := 127) (lo' := [(3, (0, n + 1)), (5, (0, mem p 1 + n * mem p 3)), (4, (0, n / mem p 7)), (0, (2, p)), (1, (2, 7)), (2, (2, t))]) (st' := []) rfl ?_
            refine jgoto hF (off := (-125)) 2 (by decide +kernel) (by decide) ?_
            refine jsub [3, 4, 5, 0] rfl ?_
            refine ih_1 (n + 1) me ?_ ?_ ?_ ?_ ?_
            · exact hPme
            · omega
            · (intro k q1 q2; by_cases e : k = n; (rw [e]; exact hFR.1); exact hFR.2 k e (hrw k q1 (by omega)))
            · (intro k q1 q2; by_cases e : k = n; (rw [e, ← v0, ← v2]; omega); exact hpg k q1 (by omega))
            · omega
          · refine jif_ne hF (off := 5) 124 (by decide +kernel) (by decide) (by decide) (fun h => absurd h (by decide)) (fun _ => ?_)
            refine jblk hF [(.iconst 0, 1)] (by decide +kernel) (pc' := 123) (lo' := [(5, (0, mem p 1 + n * mem p 3)), (4, (0, n / mem p 7)), (0, (2, p)), (1, (2, 7)), (2, (2, t)), (3, (0, n))]) (st' := [(0, 0)]) rfl ?_
            refine jzret hF hr (by omega) (by decide +kernel) ?_
            exact lMB0 (by exact ⟨⟨fun h => h.elim, fun h => by have w := h n (by omega) (by omega); rw [← v0, ← v2] at w; omega⟩, hPme, fun h => h.elim⟩)
        · refine jif_eq hF (off := 17) 122 (by decide +kernel) (by decide) (by decide) (fun _ => ?_) (fun h => absurd h (by decide))
          refine jblk hF [(.iconst 0, 1)] (by decide +kernel) (pc' := 123) (lo' := [(5, (0, mem p 1 + n * mem p 3)), (4, (0, n / mem p 7)), (0, (2, p)), (1, (2, 7)), (2, (2, t)), (3, (0, n))]) (st' := [(0, 0)]) rfl ?_
          refine jzret hF hr (by omega) (by decide +kernel) ?_
          exact lMB0 (by exact ⟨⟨fun h => h.elim, fun h => by have w := h n (by omega) (by omega); rw [← v0, ← v2] at w; omega⟩, hPme, fun h => h.elim⟩)
  refine jsub [1, 2, 3, 0] rfl ?_
  refine L_2 _ 0 mem ?_ ?_ ?_ ?_ (Nat.lt_succ_self _)
  · exact ⟨fun b j _ _ => rfl, hEB⟩
  · omega
  · (intro k q1 q2; omega)
  · (intro k q1 q2; omega)
end
