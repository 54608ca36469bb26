section
section LOOK
variable {z : ZT} {l : Launch} {g : GP} {nL : Nat} {cells slots : Nat} {Q : State → Prop} {pc : Nat} {lo : List (Nat × AV)} {rest : List AV} {kd : Int → Nat} {ln : Int → Int} {mem : Int → Int → Int} {sz : Nat} {cc : ByteArray} {own : String} {R : Room}
theorem jlook (hF : FX z l g nL cc own R) {x dflt : Int} {ps : Array (Int × Int)} {len : Nat} (off : Int) (tgt : Nat) (hd : decode cc pc = .ok (.lookupswitch dflt ps, len)) (hp : (ps.toList.zip (ps.toList.drop 1)).all (fun (a, next) => a.1 < next.1) = true) (ho : Op.lookupswitch.offset ps.toList dflt x = off) (hI : InI x) (ht : (pc : Int) + off = (tgt : Int)) (kk : J z g nL cells slots Q tgt lo rest kd ln mem sz) : J z g nL cells slots Q pc lo ((0, x) :: rest) kd ln mem sz := by
  obtain ⟨p, l', e, R', s, m, args, below, meth, cd⟩ := z
  obtain ⟨hx, hb, hml, hown, hW, hG, -⟩ := hF
  exact fun ls H locs hl hR hq => lv_lookup hx hb hd hp (by rw [I_toInt hI]; exact ho) ht (kk ls H locs hl hR hq)
end LOOK
/-- a page's rows, made one by one -/
def k9 (i : Int) : Nat := if i = 4 ∨ i = 5 ∨ i = 6 ∨ i = 8 then 21 else 20
def S9 (mem0 : Int → Int → Int) (p s0 f fi li i : Int) (kd : Int → Nat) (ln : Int → Int) (m : Int → Int → Int) : Prop := m p 0 = f ∧ m p 1 = fi ∧ m p 2 = li ∧ (∀ k : Int, 9 ≤ k → k < 9 + i → m p k = s0 + (k - 9)) ∧ (∀ t : Int, 0 ≤ t → t < i → kd (s0 + t) = k9 t ∧ ln (s0 + t) = 40 ∧ ∀ j : Int, m (s0 + t) j = 0) ∧ ∀ b j : Int, b ≠ p → b < s0 → m b j = mem0 b j
theorem S9.start (mem0 : Int → Int → Int) (p s0 f fi li : Int) (kd : Int → Nat) (ln : Int → Int) : S9 mem0 p s0 f fi li 0 kd ln (set2 (set2 (set2 mem0 p 0 f) p 1 fi) p 2 li) :=
  ⟨by rw [s2_k (by decide), s2_k (by decide), s2_s], by rw [s2_k (by decide), s2_s], s2_s, fun k h1 h2 => by omega, fun t h1 h2 => by omega, fun b j h1 h2 => by rw [s2_a h1, s2_a h1, s2_a h1]⟩
theorem S9.step {mem0 : Int → Int → Int} {p s0 f fi li i i' k a x : Int} {kd kd' : Int → Nat} {ln ln' : Int → Int} {m m' : Int → Int → Int} {sz sz' : Nat} (h : S9 mem0 p s0 f fi li i kd ln m) (hi : 0 ≤ i) (hi' : i' = i + 1) (hkk : k = 9 + i ∨ (k = 18 ∧ i = 8)) (hp : p < s0) (hE : EXT kd ln sz kd' ln' sz') (hs : ((sz : Nat) : Int) = s0 + i) (ha : a = sz) (hk : kd' a = k9 i) (hl : ln' a = 40) (hmo : ∀ b j : Int, b ≠ a → m' b j = m b j) (hmn : ∀ j : Int, m' a j = 0) (hx : x = a) : (k = 9 + i → S9 mem0 p s0 f fi li i' kd' ln' (set2 m' p k x)) ∧ S9 mem0 p s0 f fi li i kd' ln' (set2 m' p k x) ∧ (kd' (s0 + i) = k9 i ∧ ln' (s0 + i) = 40 ∧ ∀ j : Int, set2 m' p k x (s0 + i) j = 0) ∧ set2 m' p k x p k = s0 + i := by
  obtain ⟨h1, h2, h3, h4, h5, h6⟩ := h
  have hb : ∀ j : Int, j ≠ k → set2 m' p k x p j = m p j := fun j q => by rw [s2_k q, hmo p j (by omega)]
  have hn : kd' (s0 + i) = k9 i ∧ ln' (s0 + i) = 40 ∧ ∀ j : Int, set2 m' p k x (s0 + i) j = 0 := by
    rw [← hs, ← ha]
    exact ⟨hk, hl, fun j => by rw [s2_a (by omega)]; exact hmn j⟩
  have ho : ∀ t : Int, 0 ≤ t → t < i → kd' (s0 + t) = k9 t ∧ ln' (s0 + t) = 40 ∧ ∀ j : Int, set2 m' p k x (s0 + t) j = 0 := fun t q1 q2 => by
    have := h5 t q1 q2
    have e := hE.2 (s0 + t) (by omega)
    exact ⟨e.1.trans this.1, e.2.trans this.2.1, fun j => by rw [s2_a (by omega), hmo _ _ (by omega)]; exact this.2.2 j⟩
  have hf : ∀ b j : Int, b ≠ p → b < s0 → set2 m' p k x b j = mem0 b j := fun b j q1 q2 => by rw [s2_a q1, hmo _ _ (by omega)]; exact h6 b j q1 q2
  refine ⟨fun hk9 => ⟨(hb 0 (by omega)).trans h1, (hb 1 (by omega)).trans h2, (hb 2 (by omega)).trans h3, fun q q1 q2 => ?_, fun t q1 q2 => ?_, hf⟩, ⟨(hb 0 (by omega)).trans h1, (hb 1 (by omega)).trans h2, (hb 2 (by omega)).trans h3, fun q q1 q2 => (hb q (by omega)).trans (h4 q q1 q2), ho, hf⟩, hn, ?_⟩
  · by_cases e : q = k
    · subst e; rw [s2_s]; omega
    · rw [hb q e]; exact h4 q q1 (by omega)
  · by_cases e : t = i
    · subst e; exact hn
    · exact ho t q1 (by omega)
  · rw [s2_s]; omega
set_option maxHeartbeats 4000000 in
set_option maxRecDepth 100000 in
theorem c_X7_cut {l : Launch} {g : GP} (hG : GH g) {kd : Int → Nat} {ln : Int → Int} {mem : Int → Int → Int} {sz : Nat} (p : Int) (v : Int) (hkp : kd p = 9) (hk : 0 ≤ mem p 0 ∧ mem p 0 ≤ 2) (h_v : InI v) : MT l g yX7_cut cX7_cut 2 (some .long) 0 0 0 [(2, p), (0, v)] kd ln mem sz (pV (1, shV (mem p 0) v) kd ln mem sz) := by
  refine MT_of hG (by decide +kernel) (Nat.le_of_ble_eq_true rfl) (fun z hF hr hn => ?_)
  have hb1 : InI (fi2b v) := I_in _
  have hb2 : InI (fi2s v) := I_in _
  refine jblk hF [(.aload_n 0, 1)] (by decide +kernel) (pc' := 1) (lo' := [(0, (2, p)), (1, (0, v))]) (st' := [(2, p)]) rfl ?_
  refine jget hF 8 0 0 0 rfl (by decide) (by decide) rfl wd_1241 (by decide +kernel) (by first | assumption | omega) ?_
  by_cases h_1 : mem p 0 = 0
  · refine jlook hF (dflt := 36) (ps := #[(0, 28), (1, 32)]) (len := 28) 28 32 (by decide +kernel) (by decide) (by rw [h_1]; rfl) (by omega) (by decide) ?_
    refine jblk hF [(.iload_n 1, 1), (.i2b, 1)] (by decide +kernel) (pc' := 34) (lo' := [(0, (2, p)), (1, (0, v))]) (st' := [(0, fi2b v)]) rfl ?_
    refine ji2l hF (by decide +kernel) (by omega) ?_
    refine jlret hF hr (by decide +kernel) ?_
    exact lV (by first | exact (if_pos (by omega)).symm | (unfold shV; rw [if_neg (by omega), if_pos (by omega)]) | (unfold shV; rw [if_neg (by omega), if_neg (by omega)]))
  by_cases h_2 : mem p 0 = 1
  · refine jlook hF (dflt := 36) (ps := #[(0, 28), (1, 32)]) (len := 28) 32 36 (by decide +kernel) (by decide) (by rw [h_2]; rfl) (by omega) (by decide) ?_
    refine jblk hF [(.iload_n 1, 1), (.i2s, 1)] (by decide +kernel) (pc' := 38) (lo' := [(0, (2, p)), (1, (0, v))]) (st' := [(0, fi2s v)]) rfl ?_
    refine ji2l hF (by decide +kernel) (by omega) ?_
    refine jlret hF hr (by decide +kernel) ?_
    exact lV (by first | exact (if_pos (by omega)).symm | (unfold shV; rw [if_neg (by omega), if_pos (by omega)]) | (unfold shV; rw [if_neg (by omega), if_neg (by omega)]))
  refine jlook hF (dflt := 36) (ps := #[(0, 28), (1, 32)]) (len := 28) 36 40 (by decide +kernel) (by decide) (by show Op.lookupswitch.offset [(0, 28), (1, 32)] _ _ = _; simp only [Op.lookupswitch.offset]; (repeat rw [if_neg (by omega)])) (by omega) (by decide) ?_
  refine jblk hF [(.iload_n 1, 1)] (by decide +kernel) (pc' := 41) (lo' := [(0, (2, p)), (1, (0, v))]) (st' := [(0, v)]) rfl ?_
  refine ji2l hF (by decide +kernel) (by omega) ?_
  refine jlret hF hr (by decide +kernel) ?_
  exact lV (by first | exact (if_pos (by omega)).symm | (unfold shV; rw [if_neg (by omega), if_pos (by omega)]) | (unfold shV; rw [if_neg (by omega), if_neg (by omega)]))
set_option maxHeartbeats 4000000 in
set_option maxRecDepth 100000 in
theorem c_X10_twin {l : Launch} {g : GP} (hG : GH g) {kd : Int → Nat} {ln : Int → Int} {mem : Int → Int → Int} {sz : Nat} (p : Int) (hkp : kd p = 12) (hp0 : 0 ≤ p ∧ p < sz) (hrr : kd (mem p 0) = 20) (hr3 : 3 ≤ mem p 0 ∧ mem p 0 < sz) (hl : 0 ≤ mem p 1 ∧ mem p 1 ≤ ln (mem p 0) ∧ mem p 1 ≤ 160) (hz : 101 ≤ sz) : MT l g yX10_twin cX10_twin 2 (some (.object "FigureHouse$Text")) 2 2 162 [(2, p)] kd ln mem sz (pXR 2 (fun v kd' ln' mem' sz' => (sz' = sz + 2 ∧ v = sz ∧ mem' sz 0 = sz + 1 ∧ mem' sz 1 = mem p 1 ∧ kd' sz = 12 ∧ kd' (sz + 1) = 20 ∧ ln' (sz + 1) = mem p 1 ∧ (∀ j : Int, mem' (sz + 1) j = if 0 ≤ j ∧ j < mem p 1 then mem (mem p 0) j else 0) ∧ ∀ b j : Int, b ≠ sz → b ≠ sz + 1 → mem' b j = mem b j)) kd ln sz) := by
  refine MT_of hG (by decide +kernel) (Nat.le_of_ble_eq_true rfl) (fun z hF hr hn => ?_)
  refine jnew hF 11 (by decide) okT_11 wd_677 wd_139 wd_103 (by decide +kernel) ⟨Nat.le_of_ble_eq_true rfl, Nat.le_of_ble_eq_true rfl⟩ ?_
  obtain ⟨kd_1, hkd_1⟩ : ∃ q : Int → Nat, q = upK kd ((sz : Nat) : Int) (12) := ⟨_, rfl⟩
  obtain ⟨m_1, hm_1⟩ : ∃ q : Int → Int → Int, q = newO 11 mem ((sz : Nat) : Int) := ⟨_, rfl⟩
  obtain ⟨sz_1, hsz_1⟩ : ∃ q : Nat, q = sz + 1 := ⟨_, rfl⟩
  obtain ⟨a_1, ha_1⟩ : ∃ q : Int, q = ((sz : Nat) : Int) := ⟨_, rfl⟩
  rw [← hkd_1, ← hm_1, ← hsz_1]
  rw [← ha_1]
  have hk_1 : kd_1 a_1 = 12 := by rw [ha_1, hkd_1]; exact if_pos rfl
  have hE_1 : EXT kd ln sz kd_1 ln sz_1 := by rw [hsz_1, hkd_1]; exact EXT.k _
  have hEE_1 : EXT kd ln sz kd_1 ln sz_1 := (EXT.rf).tr hE_1
  have hmo_1 : ∀ b j : Int, b ≠ a_1 → m_1 b j = mem b j := fun b j q => by rw [hm_1]; exact newO_o j (by rw [← ha_1]; exact q)
  have hmn_1 : ∀ j : Int, m_1 a_1 j = dfl 11 j.toNat := fun j => by rw [hm_1, ha_1]; exact newO_s j
  have hmoA := hmo_1
  have hmnA := hmn_1
  have hEA := hE_1
  have hkA := hk_1
  have haA := ha_1
  have hszA := hsz_1
  have hEEA := hEE_1
  refine jblk hF [(.dup, 1)] (by decide +kernel) (pc' := 4) (lo' := [(0, (2, p))]) (st' := [(2, a_1), (2, a_1)]) rfl ?_
  have hkp1 := (hEA.2 p (by omega)).1.trans hkp
  have e1p : m_1 p 1 = mem p 1 := hmoA p 1 (by omega)
  have e0p : m_1 p 0 = mem p 0 := hmoA p 0 (by omega)
  refine jblk hF [(.aload_n 0, 1)] (by decide +kernel) (pc' := 5) (lo' := [(0, (2, p))]) (st' := [(2, p), (2, a_1), (2, a_1)]) rfl ?_
  refine jget hF 11 1 0 1 rfl (by decide) (by decide) rfl wd_149 (by decide +kernel) (by first | assumption | omega) ?_
  refine jcallI hF (c_X10_init hG a_1 (m_1 p 1) (by first | assumption | omega) (by omega) (by omega) (by omega)) MW_X10_init rfl (by omega) wd_678 wd_141 (by decide +kernel) [(2, a_1)] rfl rfl (by decide) (Nat.le_of_ble_eq_true rfl) ⟨Nat.le_of_ble_eq_true rfl, Nat.le_of_ble_eq_true rfl⟩ (kXV (fun kd_2 ln_2 m_2 sz_2 hE_2 h_2 => ?_))
  have hEE_2 : EXT kd ln sz kd_2 ln_2 sz_2 := (hEE_1).tr hE_2
  obtain ⟨t1, t2, t3, t4, t5, t6, t7⟩ := h_2
  have hkp2 := (hE_2.2 p (by omega)).1.trans hkp1
  have hka2 : kd_2 a_1 = 12 := (hE_2.2 a_1 (by omega)).1.trans hkA
  have f0 : m_2 p 0 = mem p 0 := (t7 p 0 (by omega) (by omega)).trans e0p
  have f1 : m_2 p 1 = mem p 1 := (t7 p 1 (by omega) (by omega)).trans e1p
  have hkr : kd_2 (m_2 p 0) = 20 := by rw [f0]; exact ((hE_2.2 _ (by omega)).1.trans (hEA.2 _ (by omega)).1).trans hrr
  have hlr : ln_2 (m_2 p 0) = ln (mem p 0) := by rw [f0]; exact (hE_2.2 _ (by omega)).2.trans (hEA.2 _ (by omega)).2
  have hkq : kd_2 (m_2 a_1 0) = 20 := by rw [t2]; exact t4
  have hlq : ln_2 (m_2 a_1 0) = mem p 1 := by rw [t2]; exact t5.trans e1p
  refine jblk hF [(.astore_n 1, 1), (.aload_n 0, 1)] (by decide +kernel) (pc' := 13) (lo' := [(1, (2, a_1)), (0, (2, p))]) (st' := [(2, p)]) rfl ?_
  refine jget hF 11 0 2 0 rfl (by decide) (by decide) rfl wd_147 (by decide +kernel) (by first | assumption | omega) ?_
  refine jblk hF [(.iconst 0, 1), (.aload_n 1, 1)] (by decide +kernel) (pc' := 18) (lo' := [(1, (2, a_1)), (0, (2, p))]) (st' := [(2, a_1), (0, 0), (2, m_2 p 0)]) rfl ?_
  refine jget hF 11 0 2 0 rfl (by decide) (by decide) rfl wd_147 (by decide +kernel) (by first | assumption | omega) ?_
  refine jblk hF [(.iconst 0, 1), (.aload_n 0, 1)] (by decide +kernel) (pc' := 23) (lo' := [(1, (2, a_1)), (0, (2, p))]) (st' := [(2, p), (0, 0), (2, m_2 a_1 0), (0, 0), (2, m_2 p 0)]) rfl ?_
  refine jget hF 11 1 0 1 rfl (by decide) (by decide) rfl wd_149 (by decide +kernel) (by first | assumption | omega) ?_
  refine jcopy hF 0 (by decide) wd_679 wx_487 wd_486 wd_115 (fun h => absurd h (by decide)) (by first | assumption | omega) (by first | assumption | omega) (by omega) (by omega) (by omega) (by omega) (by omega) (by omega) (fun h => absurd h (by decide)) (by decide +kernel) ⟨Nat.le_of_ble_eq_true rfl, Nat.le_of_ble_eq_true rfl⟩ ?_
  obtain ⟨m_3, hm_3⟩ : ∃ q : Int → Int → Int, q = cpyM m_2 (m_2 p 0) (m_2 a_1 0) 0 0 (m_2 p 1) := ⟨_, rfl⟩
  rw [← hm_3]
  have hmC := hm_3
  have g0 : ∀ b j : Int, b ≠ sz + 1 → m_3 b j = m_2 b j := fun b j q => by rw [hmC]; exact if_neg (fun q2 => q (by omega))
  have hsn : ((sz_1 : Nat) : Int) = sz + 1 := by omega
  have g1 : ∀ j : Int, m_3 (sz + 1) j = if 0 ≤ j ∧ j < mem p 1 then mem (mem p 0) j else 0 := fun j => by
    rw [hmC]
    by_cases qj : 0 ≤ j ∧ j < mem p 1
    · rw [if_pos qj]
      refine (if_pos ⟨by omega, by omega, by omega⟩).trans ?_
      rw [f0, show (0 : Int) + (j - 0) = j by omega]
      exact (t7 _ _ (by omega) (by omega)).trans (hmoA _ _ (by omega))
    · rw [if_neg qj]
      refine (if_neg (fun w => qj ⟨by omega, by omega⟩)).trans ?_
      rw [← hsn]
      exact t6 j
  refine jblk hF [(.aload_n 1, 1), (.aload_n 0, 1)] (by decide +kernel) (pc' := 31) (lo' := [(1, (2, a_1)), (0, (2, p))]) (st' := [(2, p), (2, a_1)]) rfl ?_
  refine jget hF 11 1 0 1 rfl (by decide) (by decide) rfl wd_149 (by decide +kernel) (by first | assumption | omega) ?_
  refine jput hF 11 1 0 1 rfl (by decide) (by decide) rfl wd_149 (by decide +kernel) rfl (Or.inl rfl) (by first | assumption | omega) (fun h => by cases h) ?_
  refine jblk hF [(.aload_n 1, 1)] (by decide +kernel) (pc' := 38) (lo' := [(1, (2, a_1)), (0, (2, p))]) (st' := [(2, a_1)]) rfl ?_
  refine jwiden (k := 2) (n := 162) (Nat.le_of_ble_eq_true rfl) (by first | exact Nat.le_of_ble_eq_true rfl | omega) ?_
  refine jaret hF hr (Or.inl ⟨_, rfl⟩) (by decide +kernel) ?_
  exact ⟨_, rfl, hEE_2, (by exact ⟨by omega, rfl, by rw [s2_k (by decide), g0 a_1 0 (by omega), t2]; omega, by rw [s2_s, g0 p 1 (by omega)]; exact f1, hka2, by rw [show a_1 + 1 = ((sz_1 : Nat) : Int) by omega]; exact t4, by rw [show a_1 + 1 = ((sz_1 : Nat) : Int) by omega]; exact t5.trans e1p, fun j => by rw [s2_a (by omega), haA]; exact g1 j, fun b j q1 q2 => by rw [s2_a (by omega), g0 b j (by omega)]; exact (t7 b j (by omega) (by omega)).trans (hmoA b j (by omega))⟩)⟩
set_option maxHeartbeats 4000000 in
set_option maxRecDepth 100000 in
theorem c_X3_setEmpty {l : Launch} {g : GP} (hG : GH g) {kd : Int → Nat} {ln : Int → Int} {mem : Int → Int → Int} {sz : Nat} (p : Int) (hkp : kd p = 5) (hp0 : 0 ≤ p) (hz : p < sz ∧ mem p 18 < sz) (hk18 : kd (mem p 18) = 21 ∧ ln (mem p 18) = 40 ∧ 3 ≤ mem p 18) (hne : mem p 18 ≠ p) : MT l g yX3_setEmpty cX3_setEmpty 1 none 1 1 40 [(2, p)] kd ln mem sz (pXV (fun kd' ln' mem' sz' => ((0 ≤ mem p 17 → sz' = sz ∧ mem' = fillM mem (mem p 18) 40 0) ∧ (mem p 17 < 0 → sz' = sz + 1 ∧ mem' p 17 = sz ∧ kd' sz = 21 ∧ ln' sz = 40 ∧ (∀ j : Int, 0 ≤ j → j < 40 → mem' (mem p 18) j = 0) ∧ ∀ b j : Int, ¬ (b = p ∧ j = 17) → b ≠ mem p 18 → b ≠ sz → mem' b j = mem b j))) kd ln sz) := by
  refine MT_of hG (by decide +kernel) (Nat.le_of_ble_eq_true rfl) (fun z hF hr hn => ?_)
  refine jblk hF [(.aload_n 0, 1)] (by decide +kernel) (pc' := 1) (lo' := [(0, (2, p))]) (st' := [(2, p)]) rfl ?_
  refine jget hF 4 17 2 17 rfl (by decide) (by decide) rfl wd_727 (by decide +kernel) (by first | assumption | omega) ?_
  refine jnonnull hF (off := 11) 15 (by decide +kernel) (by decide) (fun h_1 => ?_) (fun h_1 => ?_)
  · refine jblk hF [(.aload_n 0, 1)] (by decide +kernel) (pc' := 16) (lo' := [(0, (2, p))]) (st' := [(2, p)]) rfl ?_
    refine jget hF 4 18 2 18 rfl (by decide) (by decide) rfl wd_728 (by decide +kernel) (by first | assumption | omega) ?_
    have e18 : (mem p 18) = mem p 18 := by first | rfl | exact hmoA p 18 (by omega)
    refine jlconst hF (n := 0) 0 rfl (by decide +kernel) ?_
    refine jcallS hF (c_J7_fill_d0a16 hG (mem p 18) 0 (by first | exact hk18.1 | (rw [e18]; exact hk184)) (by omega) (by first | omega | (rw [e18]; omega))) MW_J7_fill_d0a16 wd_1126 wd_808 (by decide +kernel) [] rfl rfl (by decide) (Nat.le_of_ble_eq_true rfl) (by decide) (kMV (fun m_2 h_3 => ?_))
    have hf := h_3
    refine jwiden (k := 1) (n := 40) (Nat.le_of_ble_eq_true rfl) (Nat.le_of_ble_eq_true rfl) ?_
    refine jvret hF hr (by decide +kernel) ?_
    exact ⟨rfl, EXT.rf, (by first | exact ⟨fun _ => ⟨rfl, by rw [hf, hk18.2.1]⟩, fun q => absurd q (by omega)⟩ | (rw [e18, hl184] at hf; exact ⟨fun q => absurd q (by omega), fun _ => ⟨by omega, by rw [hf]; exact (if_neg (by omega)).trans (s2_s), hkA, hlA, fun j h1 h2 => by rw [hf]; exact if_pos ⟨rfl, h1, h2⟩, fun b j q1 q2 q3 => by rw [hf]; refine (if_neg (by omega)).trans (((if_neg q1).trans (hmoA b j (by omega))))⟩⟩))⟩
  · refine jblk hF [(.aload_n 0, 1), (.bipush 40, 2)] (by decide +kernel) (pc' := 10) (lo' := [(0, (2, p))]) (st' := [(0, 40), (2, p)]) rfl ?_
    refine jnewa hF (at' := .long) 1 (by decide) rfl wd_210 (by decide +kernel) (by omega) (by omega) ⟨Nat.le_of_ble_eq_true rfl, Nat.le_of_ble_eq_true rfl⟩ ?_
    obtain ⟨kd_4, hkd_4⟩ : ∃ q : Int → Nat, q = upK kd ((sz : Nat) : Int) (21) := ⟨_, rfl⟩
    obtain ⟨ln_4, hln_4⟩ : ∃ q : Int → Int, q = upL ln ((sz : Nat) : Int) 40 := ⟨_, rfl⟩
    obtain ⟨m_4, hm_4⟩ : ∃ q : Int → Int → Int, q = newA 0 mem ((sz : Nat) : Int) := ⟨_, rfl⟩
    obtain ⟨sz_4, hsz_4⟩ : ∃ q : Nat, q = sz + 1 := ⟨_, rfl⟩
    obtain ⟨a_4, ha_4⟩ : ∃ q : Int, q = ((sz : Nat) : Int) := ⟨_, rfl⟩
    rw [← hkd_4, ← hln_4, ← hm_4, ← hsz_4]
    rw [← ha_4]
    have hk_4 : kd_4 a_4 = 21 := by rw [ha_4, hkd_4]; exact if_pos rfl
    have hl_4 : ln_4 a_4 = 40 := by rw [ha_4, hln_4]; exact if_pos rfl
    have hE_4 : EXT kd ln sz kd_4 ln_4 sz_4 := by rw [hsz_4, hkd_4, hln_4]; exact EXT.a _ _
    have hEE_4 : EXT kd ln sz kd_4 ln_4 sz_4 := (EXT.rf).tr hE_4
    have hmo_4 : ∀ b j : Int, b ≠ a_4 → m_4 b j = mem b j := fun b j q => by rw [hm_4]; exact newA_o j (by rw [← ha_4]; exact q)
    have hmn_4 : ∀ j : Int, m_4 a_4 j = 0 := fun j => by rw [hm_4, ha_4]; exact newA_s j
    have hmoA := hmo_4
    have hmnA := hmn_4
    have hEA := hE_4
    have hkA := hk_4
    have haA := ha_4
    have hszA := hsz_4
    have hEEA := hEE_4
    have hlA := hl_4
    have hkp4 := (hEA.2 p (by omega)).1.trans hkp
    have hk184 := (hEA.2 (mem p 18) (by omega)).1.trans hk18.1
    have hl184 := (hEA.2 (mem p 18) (by omega)).2.trans hk18.2.1
    refine jput hF 4 17 2 17 rfl (by decide) (by decide) rfl wd_727 (by decide +kernel) rfl (Or.inr (Or.inr (Or.inr (Or.inr ⟨_, rfl⟩)))) (by first | assumption | omega) (fun h => by cases h) ?_
    refine jblk hF [(.aload_n 0, 1)] (by decide +kernel) (pc' := 16) (lo' := [(0, (2, p))]) (st' := [(2, p)]) rfl ?_
    refine jget hF 4 18 2 18 rfl (by decide) (by decide) rfl wd_728 (by decide +kernel) (by first | assumption | omega) ?_
    rw [show (set2 m_4 p 17 a_4) p 18 = m_4 p 18 from (s2_k (by decide))]
    have e18 : (m_4 p 18) = mem p 18 := by first | rfl | exact hmoA p 18 (by omega)
    refine jlconst hF (n := 0) 0 rfl (by decide +kernel) ?_
    refine jcallS hF (c_J7_fill_d0a16 hG (m_4 p 18) 0 (by first | exact hk18.1 | (rw [e18]; exact hk184)) (by omega) (by first | omega | (rw [e18]; omega))) MW_J7_fill_d0a16 wd_1126 wd_808 (by decide +kernel) [] rfl rfl (by decide) (Nat.le_of_ble_eq_true rfl) (by decide) (kMV (fun m_5 h_6 => ?_))
    have hf := h_6
    refine jwiden (k := 1) (n := 40) (Nat.le_of_ble_eq_true rfl) (Nat.le_of_ble_eq_true rfl) ?_
    refine jvret hF hr (by decide +kernel) ?_
    exact ⟨rfl, hEE_4, (by first | exact ⟨fun _ => ⟨rfl, by rw [hf, hk18.2.1]⟩, fun q => absurd q (by omega)⟩ | (rw [e18, hl184] at hf; exact ⟨fun q => absurd q (by omega), fun _ => ⟨by omega, by rw [hf]; exact (if_neg (by omega)).trans (s2_s), hkA, hlA, fun j h1 h2 => by rw [hf]; exact if_pos ⟨rfl, h1, h2⟩, fun b j q1 q2 q3 => by rw [hf]; refine (if_neg (by omega)).trans (((if_neg q1).trans (hmoA b j (by omega))))⟩⟩))⟩
set_option maxHeartbeats 4000000 in
set_option maxRecDepth 100000 in
theorem c_X3_init {l : Launch} {g : GP} (hG : GH g) {kd : Int → Nat} {ln : Int → Int} {mem : Int → Int → Int} {sz : Nat} (p : Int) (f fi li : Int) (hkp : kd p = 5) (hp0 : 0 ≤ p) (hps : p < sz) : MT l g yX3_init cX3_init 4 none 1 9 360 [(2, p), (0, f), (0, fi), (0, li)] kd ln mem sz (pXV (fun kd' ln' mem' sz' => (sz' = sz + 9 ∧ mem' p 0 = f ∧ mem' p 1 = fi ∧ mem' p 2 = li ∧ mem' p 17 = -1 ∧ (∀ k : Int, 9 ≤ k → k ≤ 16 → mem' p k = sz + (k - 9)) ∧ mem' p 18 = sz + 8 ∧ (∀ i : Int, 0 ≤ i → i < 9 → kd' (sz + i) = k9 i ∧ ln' (sz + i) = 40 ∧ ∀ j : Int, mem' (sz + i) j = 0) ∧ ∀ b j : Int, b ≠ p → b < sz → mem' b j = mem b j)) kd ln sz) := by
  refine MT_of hG (by decide +kernel) (Nat.le_of_ble_eq_true rfl) (fun z hF hr hn => ?_)
  refine jblk hF [(.aload_n 0, 1)] (by decide +kernel) (pc' := 1) (lo' := [(0, (2, p)), (1, (0, f)), (2, (0, fi)), (3, (0, li))]) (st' := [(2, p)]) rfl ?_
  refine jobj hF (by omega) wd_693 wd_133 wd_objcode (by decide +kernel) (by decide) ?_
  refine jblk hF [(.aload_n 0, 1), (.iload_n 1, 1)] (by decide +kernel) (pc' := 6) (lo' := [(0, (2, p)), (1, (0, f)), (2, (0, fi)), (3, (0, li))]) (st' := [(0, f), (2, p)]) rfl ?_
  refine jputF hF hn 4 0 0 0 rfl (by decide) (by decide) rfl wd_694 (by decide +kernel) rfl rfl (Or.inl rfl) (by first | assumption | omega) (fun h => by cases h) ?_
  refine jblk hF [(.aload_n 0, 1), (.iload_n 2, 1)] (by decide +kernel) (pc' := 11) (lo' := [(0, (2, p)), (1, (0, f)), (2, (0, fi)), (3, (0, li))]) (st' := [(0, fi), (2, p)]) rfl ?_
  refine jputF hF hn 4 1 0 1 rfl (by decide) (by decide) rfl wd_695 (by decide +kernel) rfl rfl (Or.inl rfl) (by first | assumption | omega) (fun h => by cases h) ?_
  refine jblk hF [(.aload_n 0, 1), (.iload_n 3, 1)] (by decide +kernel) (pc' := 16) (lo' := [(0, (2, p)), (1, (0, f)), (2, (0, fi)), (3, (0, li))]) (st' := [(0, li), (2, p)]) rfl ?_
  refine jputF hF hn 4 2 0 2 rfl (by decide) (by decide) rfl wd_696 (by decide +kernel) rfl rfl (Or.inl rfl) (by first | assumption | omega) (fun h => by cases h) ?_
  refine jblk hF [(.aload_n 0, 1), (.bipush 40, 2)] (by decide +kernel) (pc' := 22) (lo' := [(0, (2, p)), (1, (0, f)), (2, (0, fi)), (3, (0, li))]) (st' := [(0, 40), (2, p)]) rfl ?_
  refine jnewa hF (at' := .int) 0 (by decide) rfl wd_157 (by decide +kernel) (by omega) (by omega) ⟨Nat.le_of_ble_eq_true rfl, Nat.le_of_ble_eq_true rfl⟩ ?_
  obtain ⟨kd_1, hkd_1⟩ : ∃ q : Int → Nat, q = upK kd ((sz : Nat) : Int) (20) := ⟨_, rfl⟩
  obtain ⟨ln_1, hln_1⟩ : ∃ q : Int → Int, q = upL ln ((sz : Nat) : Int) 40 := ⟨_, rfl⟩
  obtain ⟨m_1, hm_1⟩ : ∃ q : Int → Int → Int, q = newA 0 (set2 (set2 (set2 mem p 0 f) p 1 fi) p 2 li) ((sz : Nat) : Int) := ⟨_, rfl⟩
  obtain ⟨sz_1, hsz_1⟩ : ∃ q : Nat, q = sz + 1 := ⟨_, rfl⟩
  obtain ⟨a_1, ha_1⟩ : ∃ q : Int, q = ((sz : Nat) : Int) := ⟨_, rfl⟩
  rw [← hkd_1, ← hln_1, ← hm_1, ← hsz_1]
  rw [← ha_1]
  have hk_1 : kd_1 a_1 = 20 := by rw [ha_1, hkd_1]; exact if_pos rfl
  have hl_1 : ln_1 a_1 = 40 := by rw [ha_1, hln_1]; exact if_pos rfl
  have hE_1 : EXT kd ln sz kd_1 ln_1 sz_1 := by rw [hsz_1, hkd_1, hln_1]; exact EXT.a _ _
  have hEE_1 : EXT kd ln sz kd_1 ln_1 sz_1 := (EXT.rf).tr hE_1
  have hmo_1 : ∀ b j : Int, b ≠ a_1 → m_1 b j = (set2 (set2 (set2 mem p 0 f) p 1 fi) p 2 li) b j := fun b j q => by rw [hm_1]; exact newA_o j (by rw [← ha_1]; exact q)
  have hmn_1 : ∀ j : Int, m_1 a_1 j = 0 := fun j => by rw [hm_1, ha_1]; exact newA_s j
  have hmoA := hmo_1
  have hmnA := hmn_1
  have hEA := hE_1
  have hkA := hk_1
  have haA := ha_1
  have hszA := hsz_1
  have hEEA := hEE_1
  have hlA := hl_1
  have hkp1 := (hEA.2 p (by omega)).1.trans hkp
  refine jputF hF hn 4 9 2 9 rfl (by decide) (by decide) rfl wd_710 (by decide +kernel) rfl rfl (Or.inr (Or.inr (Or.inr (Or.inr ⟨_, rfl⟩)))) (by first | assumption | omega) (fun h => by cases h) ?_
  have hS0 := S9.start mem p a_1 f fi li kd ln
  have hS1 := (hS0.step (i' := 1) (k := 9) (by decide) (by decide) (Or.inl (by decide)) (by omega) hEA (by omega) haA hkA hlA hmoA hmnA rfl).1 (by decide)
  refine jblk hF [(.aload_n 0, 1), (.bipush 40, 2)] (by decide +kernel) (pc' := 30) (lo' := [(0, (2, p)), (1, (0, f)), (2, (0, fi)), (3, (0, li))]) (st' := [(0, 40), (2, p)]) rfl ?_
  refine jnewa hF (at' := .int) 0 (by decide) rfl wd_157 (by decide +kernel) (by omega) (by omega) ⟨Nat.le_of_ble_eq_true rfl, Nat.le_of_ble_eq_true rfl⟩ ?_
  obtain ⟨kd_2, hkd_2⟩ : ∃ q : Int → Nat, q = upK kd_1 ((sz_1 : Nat) : Int) (20) := ⟨_, rfl⟩
  obtain ⟨ln_2, hln_2⟩ : ∃ q : Int → Int, q = upL ln_1 ((sz_1 : Nat) : Int) 40 := ⟨_, rfl⟩
  obtain ⟨m_2, hm_2⟩ : ∃ q : Int → Int → Int, q = newA 0 (set2 m_1 p 9 a_1) ((sz_1 : Nat) : Int) := ⟨_, rfl⟩
  obtain ⟨sz_2, hsz_2⟩ : ∃ q : Nat, q = sz_1 + 1 := ⟨_, rfl⟩
  obtain ⟨a_2, ha_2⟩ : ∃ q : Int, q = ((sz_1 : Nat) : Int) := ⟨_, rfl⟩
  rw [← hkd_2, ← hln_2, ← hm_2, ← hsz_2]
  rw [← ha_2]
  have hk_2 : kd_2 a_2 = 20 := by rw [ha_2, hkd_2]; exact if_pos rfl
  have hl_2 : ln_2 a_2 = 40 := by rw [ha_2, hln_2]; exact if_pos rfl
  have hE_2 : EXT kd_1 ln_1 sz_1 kd_2 ln_2 sz_2 := by rw [hsz_2, hkd_2, hln_2]; exact EXT.a _ _
  have hEE_2 : EXT kd ln sz kd_2 ln_2 sz_2 := (hEE_1).tr hE_2
  have hmo_2 : ∀ b j : Int, b ≠ a_2 → m_2 b j = (set2 m_1 p 9 a_1) b j := fun b j q => by rw [hm_2]; exact newA_o j (by rw [← ha_2]; exact q)
  have hmn_2 : ∀ j : Int, m_2 a_2 j = 0 := fun j => by rw [hm_2, ha_2]; exact newA_s j
  have hmoA := hmo_2
  have hmnA := hmn_2
  have hEA := hE_2
  have hkA := hk_2
  have haA := ha_2
  have hszA := hsz_2
  have hEEA := hEE_2
  have hlA := hl_2
  have hkp2 := (hEA.2 p (by omega)).1.trans hkp1
  refine jputF hF hn 4 10 2 10 rfl (by decide) (by decide) rfl wd_712 (by decide +kernel) rfl rfl (Or.inr (Or.inr (Or.inr (Or.inr ⟨_, rfl⟩)))) (by first | assumption | omega) (fun h => by cases h) ?_
  have hS2 := (hS1.step (i' := 2) (k := 10) (by decide) (by decide) (Or.inl (by decide)) (by omega) hEA (by omega) haA hkA hlA hmoA hmnA rfl).1 (by decide)
  clear hS1
  refine jblk hF [(.aload_n 0, 1), (.bipush 40, 2)] (by decide +kernel) (pc' := 38) (lo' := [(0, (2, p)), (1, (0, f)), (2, (0, fi)), (3, (0, li))]) (st' := [(0, 40), (2, p)]) rfl ?_
  refine jnewa hF (at' := .int) 0 (by decide) rfl wd_157 (by decide +kernel) (by omega) (by omega) ⟨Nat.le_of_ble_eq_true rfl, Nat.le_of_ble_eq_true rfl⟩ ?_
  obtain ⟨kd_3, hkd_3⟩ : ∃ q : Int → Nat, q = upK kd_2 ((sz_2 : Nat) : Int) (20) := ⟨_, rfl⟩
  obtain ⟨ln_3, hln_3⟩ : ∃ q : Int → Int, q = upL ln_2 ((sz_2 : Nat) : Int) 40 := ⟨_, rfl⟩
  obtain ⟨m_3, hm_3⟩ : ∃ q : Int → Int → Int, q = newA 0 (set2 m_2 p 10 a_2) ((sz_2 : Nat) : Int) := ⟨_, rfl⟩
  obtain ⟨sz_3, hsz_3⟩ : ∃ q : Nat, q = sz_2 + 1 := ⟨_, rfl⟩
  obtain ⟨a_3, ha_3⟩ : ∃ q : Int, q = ((sz_2 : Nat) : Int) := ⟨_, rfl⟩
  rw [← hkd_3, ← hln_3, ← hm_3, ← hsz_3]
  rw [← ha_3]
  have hk_3 : kd_3 a_3 = 20 := by rw [ha_3, hkd_3]; exact if_pos rfl
  have hl_3 : ln_3 a_3 = 40 := by rw [ha_3, hln_3]; exact if_pos rfl
  have hE_3 : EXT kd_2 ln_2 sz_2 kd_3 ln_3 sz_3 := by rw [hsz_3, hkd_3, hln_3]; exact EXT.a _ _
  have hEE_3 : EXT kd ln sz kd_3 ln_3 sz_3 := (hEE_2).tr hE_3
  have hmo_3 : ∀ b j : Int, b ≠ a_3 → m_3 b j = (set2 m_2 p 10 a_2) b j := fun b j q => by rw [hm_3]; exact newA_o j (by rw [← ha_3]; exact q)
  have hmn_3 : ∀ j : Int, m_3 a_3 j = 0 := fun j => by rw [hm_3, ha_3]; exact newA_s j
  have hmoA := hmo_3
  have hmnA := hmn_3
  have hEA := hE_3
  have hkA := hk_3
  have haA := ha_3
  have hszA := hsz_3
  have hEEA := hEE_3
  have hlA := hl_3
  have hkp3 := (hEA.2 p (by omega)).1.trans hkp2
  refine jputF hF hn 4 11 2 11 rfl (by decide) (by decide) rfl wd_714 (by decide +kernel) rfl rfl (Or.inr (Or.inr (Or.inr (Or.inr ⟨_, rfl⟩)))) (by first | assumption | omega) (fun h => by cases h) ?_
  have hS3 := (hS2.step (i' := 3) (k := 11) (by decide) (by decide) (Or.inl (by decide)) (by omega) hEA (by omega) haA hkA hlA hmoA hmnA rfl).1 (by decide)
  clear hS2
  refine jblk hF [(.aload_n 0, 1), (.bipush 40, 2)] (by decide +kernel) (pc' := 46) (lo' := [(0, (2, p)), (1, (0, f)), (2, (0, fi)), (3, (0, li))]) (st' := [(0, 40), (2, p)]) rfl ?_
  refine jnewa hF (at' := .int) 0 (by decide) rfl wd_157 (by decide +kernel) (by omega) (by omega) ⟨Nat.le_of_ble_eq_true rfl, Nat.le_of_ble_eq_true rfl⟩ ?_
  obtain ⟨kd_4, hkd_4⟩ : ∃ q : Int → Nat, q = upK kd_3 ((sz_3 : Nat) : Int) (20) := ⟨_, rfl⟩
  obtain ⟨ln_4, hln_4⟩ : ∃ q : Int → Int, q = upL ln_3 ((sz_3 : Nat) : Int) 40 := ⟨_, rfl⟩
  obtain ⟨m_4, hm_4⟩ : ∃ q : Int → Int → Int, q = newA 0 (set2 m_3 p 11 a_3) ((sz_3 : Nat) : Int) := ⟨_, rfl⟩
  obtain ⟨sz_4, hsz_4⟩ : ∃ q : Nat, q = sz_3 + 1 := ⟨_, rfl⟩
  obtain ⟨a_4, ha_4⟩ : ∃ q : Int, q = ((sz_3 : Nat) : Int) := ⟨_, rfl⟩
  rw [← hkd_4, ← hln_4, ← hm_4, ← hsz_4]
  rw [← ha_4]
  have hk_4 : kd_4 a_4 = 20 := by rw [ha_4, hkd_4]; exact if_pos rfl
  have hl_4 : ln_4 a_4 = 40 := by rw [ha_4, hln_4]; exact if_pos rfl
  have hE_4 : EXT kd_3 ln_3 sz_3 kd_4 ln_4 sz_4 := by rw [hsz_4, hkd_4, hln_4]; exact EXT.a _ _
  have hEE_4 : EXT kd ln sz kd_4 ln_4 sz_4 := (hEE_3).tr hE_4
  have hmo_4 : ∀ b j : Int, b ≠ a_4 → m_4 b j = (set2 m_3 p 11 a_3) b j := fun b j q => by rw [hm_4]; exact newA_o j (by rw [← ha_4]; exact q)
  have hmn_4 : ∀ j : Int, m_4 a_4 j = 0 := fun j => by rw [hm_4, ha_4]; exact newA_s j
  have hmoA := hmo_4
  have hmnA := hmn_4
  have hEA := hE_4
  have hkA := hk_4
  have haA := ha_4
  have hszA := hsz_4
  have hEEA := hEE_4
  have hlA := hl_4
  have hkp4 := (hEA.2 p (by omega)).1.trans hkp3
  refine jputF hF hn 4 12 2 12 rfl (by decide) (by decide) rfl wd_716 (by decide +kernel) rfl rfl (Or.inr (Or.inr (Or.inr (Or.inr ⟨_, rfl⟩)))) (by first | assumption | omega) (fun h => by cases h) ?_
  have hS4 := (hS3.step (i' := 4) (k := 12) (by decide) (by decide) (Or.inl (by decide)) (by omega) hEA (by omega) haA hkA hlA hmoA hmnA rfl).1 (by decide)
  clear hS3
  refine jblk hF [(.aload_n 0, 1), (.bipush 40, 2)] (by decide +kernel) (pc' := 54) (lo' := [(0, (2, p)), (1, (0, f)), (2, (0, fi)), (3, (0, li))]) (st' := [(0, 40), (2, p)]) rfl ?_
  refine jnewa hF (at' := .long) 1 (by decide) rfl wd_210 (by decide +kernel) (by omega) (by omega) ⟨Nat.le_of_ble_eq_true rfl, Nat.le_of_ble_eq_true rfl⟩ ?_
  obtain ⟨kd_5, hkd_5⟩ : ∃ q : Int → Nat, q = upK kd_4 ((sz_4 : Nat) : Int) (21) := ⟨_, rfl⟩
  obtain ⟨ln_5, hln_5⟩ : ∃ q : Int → Int, q = upL ln_4 ((sz_4 : Nat) : Int) 40 := ⟨_, rfl⟩
  obtain ⟨m_5, hm_5⟩ : ∃ q : Int → Int → Int, q = newA 0 (set2 m_4 p 12 a_4) ((sz_4 : Nat) : Int) := ⟨_, rfl⟩
  obtain ⟨sz_5, hsz_5⟩ : ∃ q : Nat, q = sz_4 + 1 := ⟨_, rfl⟩
  obtain ⟨a_5, ha_5⟩ : ∃ q : Int, q = ((sz_4 : Nat) : Int) := ⟨_, rfl⟩
  rw [← hkd_5, ← hln_5, ← hm_5, ← hsz_5]
  rw [← ha_5]
  have hk_5 : kd_5 a_5 = 21 := by rw [ha_5, hkd_5]; exact if_pos rfl
  have hl_5 : ln_5 a_5 = 40 := by rw [ha_5, hln_5]; exact if_pos rfl
  have hE_5 : EXT kd_4 ln_4 sz_4 kd_5 ln_5 sz_5 := by rw [hsz_5, hkd_5, hln_5]; exact EXT.a _ _
  have hEE_5 : EXT kd ln sz kd_5 ln_5 sz_5 := (hEE_4).tr hE_5
  have hmo_5 : ∀ b j : Int, b ≠ a_5 → m_5 b j = (set2 m_4 p 12 a_4) b j := fun b j q => by rw [hm_5]; exact newA_o j (by rw [← ha_5]; exact q)
  have hmn_5 : ∀ j : Int, m_5 a_5 j = 0 := fun j => by rw [hm_5, ha_5]; exact newA_s j
  have hmoA := hmo_5
  have hmnA := hmn_5
  have hEA := hE_5
  have hkA := hk_5
  have haA := ha_5
  have hszA := hsz_5
  have hEEA := hEE_5
  have hlA := hl_5
  have hkp5 := (hEA.2 p (by omega)).1.trans hkp4
  refine jputF hF hn 4 13 2 13 rfl (by decide) (by decide) rfl wd_718 (by decide +kernel) rfl rfl (Or.inr (Or.inr (Or.inr (Or.inr ⟨_, rfl⟩)))) (by first | assumption | omega) (fun h => by cases h) ?_
  have hS5 := (hS4.step (i' := 5) (k := 13) (by decide) (by decide) (Or.inl (by decide)) (by omega) hEA (by omega) haA hkA hlA hmoA hmnA rfl).1 (by decide)
  clear hS4
  refine jblk hF [(.aload_n 0, 1), (.bipush 40, 2)] (by decide +kernel) (pc' := 62) (lo' := [(0, (2, p)), (1, (0, f)), (2, (0, fi)), (3, (0, li))]) (st' := [(0, 40), (2, p)]) rfl ?_
  refine jnewa hF (at' := .long) 1 (by decide) rfl wd_210 (by decide +kernel) (by omega) (by omega) ⟨Nat.le_of_ble_eq_true rfl, Nat.le_of_ble_eq_true rfl⟩ ?_
  obtain ⟨kd_6, hkd_6⟩ : ∃ q : Int → Nat, q = upK kd_5 ((sz_5 : Nat) : Int) (21) := ⟨_, rfl⟩
  obtain ⟨ln_6, hln_6⟩ : ∃ q : Int → Int, q = upL ln_5 ((sz_5 : Nat) : Int) 40 := ⟨_, rfl⟩
  obtain ⟨m_6, hm_6⟩ : ∃ q : Int → Int → Int, q = newA 0 (set2 m_5 p 13 a_5) ((sz_5 : Nat) : Int) := ⟨_, rfl⟩
  obtain ⟨sz_6, hsz_6⟩ : ∃ q : Nat, q = sz_5 + 1 := ⟨_, rfl⟩
  obtain ⟨a_6, ha_6⟩ : ∃ q : Int, q = ((sz_5 : Nat) : Int) := ⟨_, rfl⟩
  rw [← hkd_6, ← hln_6, ← hm_6, ← hsz_6]
  rw [← ha_6]
  have hk_6 : kd_6 a_6 = 21 := by rw [ha_6, hkd_6]; exact if_pos rfl
  have hl_6 : ln_6 a_6 = 40 := by rw [ha_6, hln_6]; exact if_pos rfl
  have hE_6 : EXT kd_5 ln_5 sz_5 kd_6 ln_6 sz_6 := by rw [hsz_6, hkd_6, hln_6]; exact EXT.a _ _
  have hEE_6 : EXT kd ln sz kd_6 ln_6 sz_6 := (hEE_5).tr hE_6
  have hmo_6 : ∀ b j : Int, b ≠ a_6 → m_6 b j = (set2 m_5 p 13 a_5) b j := fun b j q => by rw [hm_6]; exact newA_o j (by rw [← ha_6]; exact q)
  have hmn_6 : ∀ j : Int, m_6 a_6 j = 0 := fun j => by rw [hm_6, ha_6]; exact newA_s j
  have hmoA := hmo_6
  have hmnA := hmn_6
  have hEA := hE_6
  have hkA := hk_6
  have haA := ha_6
  have hszA := hsz_6
  have hEEA := hEE_6
  have hlA := hl_6
  have hkp6 := (hEA.2 p (by omega)).1.trans hkp5
  refine jputF hF hn 4 14 2 14 rfl (by decide) (by decide) rfl wd_721 (by decide +kernel) rfl rfl (Or.inr (Or.inr (Or.inr (Or.inr ⟨_, rfl⟩)))) (by first | assumption | omega) (fun h => by cases h) ?_
  have hS6 := (hS5.step (i' := 6) (k := 14) (by decide) (by decide) (Or.inl (by decide)) (by omega) hEA (by omega) haA hkA hlA hmoA hmnA rfl).1 (by decide)
  clear hS5
  refine jblk hF [(.aload_n 0, 1), (.bipush 40, 2)] (by decide +kernel) (pc' := 70) (lo' := [(0, (2, p)), (1, (0, f)), (2, (0, fi)), (3, (0, li))]) (st' := [(0, 40), (2, p)]) rfl ?_
  refine jnewa hF (at' := .long) 1 (by decide) rfl wd_210 (by decide +kernel) (by omega) (by omega) ⟨Nat.le_of_ble_eq_true rfl, Nat.le_of_ble_eq_true rfl⟩ ?_
  obtain ⟨kd_7, hkd_7⟩ : ∃ q : Int → Nat, q = upK kd_6 ((sz_6 : Nat) : Int) (21) := ⟨_, rfl⟩
  obtain ⟨ln_7, hln_7⟩ : ∃ q : Int → Int, q = upL ln_6 ((sz_6 : Nat) : Int) 40 := ⟨_, rfl⟩
  obtain ⟨m_7, hm_7⟩ : ∃ q : Int → Int → Int, q = newA 0 (set2 m_6 p 14 a_6) ((sz_6 : Nat) : Int) := ⟨_, rfl⟩
  obtain ⟨sz_7, hsz_7⟩ : ∃ q : Nat, q = sz_6 + 1 := ⟨_, rfl⟩
  obtain ⟨a_7, ha_7⟩ : ∃ q : Int, q = ((sz_6 : Nat) : Int) := ⟨_, rfl⟩
  rw [← hkd_7, ← hln_7, ← hm_7, ← hsz_7]
  rw [← ha_7]
  have hk_7 : kd_7 a_7 = 21 := by rw [ha_7, hkd_7]; exact if_pos rfl
  have hl_7 : ln_7 a_7 = 40 := by rw [ha_7, hln_7]; exact if_pos rfl
  have hE_7 : EXT kd_6 ln_6 sz_6 kd_7 ln_7 sz_7 := by rw [hsz_7, hkd_7, hln_7]; exact EXT.a _ _
  have hEE_7 : EXT kd ln sz kd_7 ln_7 sz_7 := (hEE_6).tr hE_7
  have hmo_7 : ∀ b j : Int, b ≠ a_7 → m_7 b j = (set2 m_6 p 14 a_6) b j := fun b j q => by rw [hm_7]; exact newA_o j (by rw [← ha_7]; exact q)
  have hmn_7 : ∀ j : Int, m_7 a_7 j = 0 := fun j => by rw [hm_7, ha_7]; exact newA_s j
  have hmoA := hmo_7
  have hmnA := hmn_7
  have hEA := hE_7
  have hkA := hk_7
  have haA := ha_7
  have hszA := hsz_7
  have hEEA := hEE_7
  have hlA := hl_7
  have hkp7 := (hEA.2 p (by omega)).1.trans hkp6
  refine jputF hF hn 4 15 2 15 rfl (by decide) (by decide) rfl wd_723 (by decide +kernel) rfl rfl (Or.inr (Or.inr (Or.inr (Or.inr ⟨_, rfl⟩)))) (by first | assumption | omega) (fun h => by cases h) ?_
  have hS7 := (hS6.step (i' := 7) (k := 15) (by decide) (by decide) (Or.inl (by decide)) (by omega) hEA (by omega) haA hkA hlA hmoA hmnA rfl).1 (by decide)
  clear hS6
  refine jblk hF [(.aload_n 0, 1), (.bipush 40, 2)] (by decide +kernel) (pc' := 78) (lo' := [(0, (2, p)), (1, (0, f)), (2, (0, fi)), (3, (0, li))]) (st' := [(0, 40), (2, p)]) rfl ?_
  refine jnewa hF (at' := .int) 0 (by decide) rfl wd_157 (by decide +kernel) (by omega) (by omega) ⟨Nat.le_of_ble_eq_true rfl, Nat.le_of_ble_eq_true rfl⟩ ?_
  obtain ⟨kd_8, hkd_8⟩ : ∃ q : Int → Nat, q = upK kd_7 ((sz_7 : Nat) : Int) (20) := ⟨_, rfl⟩
  obtain ⟨ln_8, hln_8⟩ : ∃ q : Int → Int, q = upL ln_7 ((sz_7 : Nat) : Int) 40 := ⟨_, rfl⟩
  obtain ⟨m_8, hm_8⟩ : ∃ q : Int → Int → Int, q = newA 0 (set2 m_7 p 15 a_7) ((sz_7 : Nat) : Int) := ⟨_, rfl⟩
  obtain ⟨sz_8, hsz_8⟩ : ∃ q : Nat, q = sz_7 + 1 := ⟨_, rfl⟩
  obtain ⟨a_8, ha_8⟩ : ∃ q : Int, q = ((sz_7 : Nat) : Int) := ⟨_, rfl⟩
  rw [← hkd_8, ← hln_8, ← hm_8, ← hsz_8]
  rw [← ha_8]
  have hk_8 : kd_8 a_8 = 20 := by rw [ha_8, hkd_8]; exact if_pos rfl
  have hl_8 : ln_8 a_8 = 40 := by rw [ha_8, hln_8]; exact if_pos rfl
  have hE_8 : EXT kd_7 ln_7 sz_7 kd_8 ln_8 sz_8 := by rw [hsz_8, hkd_8, hln_8]; exact EXT.a _ _
  have hEE_8 : EXT kd ln sz kd_8 ln_8 sz_8 := (hEE_7).tr hE_8
  have hmo_8 : ∀ b j : Int, b ≠ a_8 → m_8 b j = (set2 m_7 p 15 a_7) b j := fun b j q => by rw [hm_8]; exact newA_o j (by rw [← ha_8]; exact q)
  have hmn_8 : ∀ j : Int, m_8 a_8 j = 0 := fun j => by rw [hm_8, ha_8]; exact newA_s j
  have hmoA := hmo_8
  have hmnA := hmn_8
  have hEA := hE_8
  have hkA := hk_8
  have haA := ha_8
  have hszA := hsz_8
  have hEEA := hEE_8
  have hlA := hl_8
  have hkp8 := (hEA.2 p (by omega)).1.trans hkp7
  refine jputF hF hn 4 16 2 16 rfl (by decide) (by decide) rfl wd_725 (by decide +kernel) rfl rfl (Or.inr (Or.inr (Or.inr (Or.inr ⟨_, rfl⟩)))) (by first | assumption | omega) (fun h => by cases h) ?_
  have hS8 := (hS7.step (i' := 8) (k := 16) (by decide) (by decide) (Or.inl (by decide)) (by omega) hEA (by omega) haA hkA hlA hmoA hmnA rfl).1 (by decide)
  clear hS7
  refine jblk hF [(.aload_n 0, 1), (.bipush 40, 2)] (by decide +kernel) (pc' := 86) (lo' := [(0, (2, p)), (1, (0, f)), (2, (0, fi)), (3, (0, li))]) (st' := [(0, 40), (2, p)]) rfl ?_
  refine jnewa hF (at' := .long) 1 (by decide) rfl wd_210 (by decide +kernel) (by omega) (by omega) ⟨Nat.le_of_ble_eq_true rfl, Nat.le_of_ble_eq_true rfl⟩ ?_
  obtain ⟨kd_9, hkd_9⟩ : ∃ q : Int → Nat, q = upK kd_8 ((sz_8 : Nat) : Int) (21) := ⟨_, rfl⟩
  obtain ⟨ln_9, hln_9⟩ : ∃ q : Int → Int, q = upL ln_8 ((sz_8 : Nat) : Int) 40 := ⟨_, rfl⟩
  obtain ⟨m_9, hm_9⟩ : ∃ q : Int → Int → Int, q = newA 0 (set2 m_8 p 16 a_8) ((sz_8 : Nat) : Int) := ⟨_, rfl⟩
  obtain ⟨sz_9, hsz_9⟩ : ∃ q : Nat, q = sz_8 + 1 := ⟨_, rfl⟩
  obtain ⟨a_9, ha_9⟩ : ∃ q : Int, q = ((sz_8 : Nat) : Int) := ⟨_, rfl⟩
  rw [← hkd_9, ← hln_9, ← hm_9, ← hsz_9]
  rw [← ha_9]
  have hk_9 : kd_9 a_9 = 21 := by rw [ha_9, hkd_9]; exact if_pos rfl
  have hl_9 : ln_9 a_9 = 40 := by rw [ha_9, hln_9]; exact if_pos rfl
  have hE_9 : EXT kd_8 ln_8 sz_8 kd_9 ln_9 sz_9 := by rw [hsz_9, hkd_9, hln_9]; exact EXT.a _ _
  have hEE_9 : EXT kd ln sz kd_9 ln_9 sz_9 := (hEE_8).tr hE_9
  have hmo_9 : ∀ b j : Int, b ≠ a_9 → m_9 b j = (set2 m_8 p 16 a_8) b j := fun b j q => by rw [hm_9]; exact newA_o j (by rw [← ha_9]; exact q)
  have hmn_9 : ∀ j : Int, m_9 a_9 j = 0 := fun j => by rw [hm_9, ha_9]; exact newA_s j
  have hmoA := hmo_9
  have hmnA := hmn_9
  have hEA := hE_9
  have hkA := hk_9
  have haA := ha_9
  have hszA := hsz_9
  have hEEA := hEE_9
  have hlA := hl_9
  have hkp9 := (hEA.2 p (by omega)).1.trans hkp8
  refine jputF hF hn 4 18 2 18 rfl (by decide) (by decide) rfl wd_728 (by decide +kernel) rfl rfl (Or.inr (Or.inr (Or.inr (Or.inr ⟨_, rfl⟩)))) (by first | assumption | omega) (fun h => by cases h) ?_
  have hS9 := (hS8.step (i' := 9) (k := 18) (by decide) (by decide) (Or.inr ⟨rfl, rfl⟩) (by omega) hEA (by omega) haA hkA hlA hmoA hmnA rfl).2
  refine jblk hF [(.aload_n 0, 1), (.aconst_null, 1)] (by decide +kernel) (pc' := 93) (lo' := [(0, (2, p)), (1, (0, f)), (2, (0, fi)), (3, (0, li))]) (st' := [(2, (-1)), (2, p)]) rfl ?_
  refine jput hF 4 17 2 17 rfl (by decide) (by decide) rfl wd_727 (by decide +kernel) rfl (Or.inr (Or.inr (Or.inr (Or.inr ⟨_, rfl⟩)))) (by first | assumption | omega) (fun h => by cases h) ?_
  refine jwiden (k := 9) (n := 360) (Nat.le_of_ble_eq_true rfl) (Nat.le_of_ble_eq_true rfl) ?_
  refine jvret hF hr (by decide +kernel) ?_
  exact ⟨rfl, hEE_9, (by (obtain ⟨⟨g1, g2, g3, g4, g5, g6⟩, g7, g8⟩ := hS9; refine ⟨by omega, (s2_k (by decide)).trans g1, (s2_k (by decide)).trans g2, (s2_k (by decide)).trans g3, s2_s, fun k h1 h2 => (s2_k (by omega)).trans (g4 k h1 (by omega)), (s2_k (by decide)).trans g8, fun i h1 h2 => ?_, fun b j h1 h2 => (s2_a h1).trans (g6 b j h1 h2)⟩; by_cases e : i = 8; (subst e; exact ⟨g7.1, g7.2.1, fun j => (s2_a (by omega)).trans (g7.2.2 j)⟩); (have w := g5 i h1 (by omega); exact ⟨w.1, w.2.1, fun j => (s2_a (by omega)).trans (w.2.2 j)⟩)))⟩
end
