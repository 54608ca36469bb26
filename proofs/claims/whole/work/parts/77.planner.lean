section
/-! the planner: what is reckoned, what is kept, the fewest hours -/
def PKD (mm : Int → Int → Int) (s a b f li st pl ha : Int) : Prop := mm 22 4 = li ∧ mm 22 5 = pl ∧ mm 22 6 = ha ∧ (∀ n : Int, 0 ≤ n → n < li → mm 23 n = nearV s a b (f + n * st) pl ha) ∧ ∀ n e : Int, 0 ≤ n → n < li → 0 ≤ e → e ≤ 6 - pl → mm 24 (e * 40 + n) = nearV s a b (f + n * st) (pl + e) 0
def PKJ (mm : Int → Int → Int) (s a b f st pl ha n : Int) : Prop := (∀ i : Int, 0 ≤ i → i < n → mm 23 i = nearV s a b (f + i * st) pl ha) ∧ ∀ i e : Int, 0 ≤ i → i < n → 0 ≤ e → e ≤ 6 - pl → mm 24 (e * 40 + i) = nearV s a b (f + i * st) (pl + e) 0
def KAP (mem : Int → Int → Int) (o e m : Int) : Prop := ∀ t : Int, 0 ≤ t → t < mem 22 4 → t % m = 0 → (if t + m < mem 22 4 then t + m else mem 22 4) ≤ rcV (fun i => mem 24 (e * 40 + i)) (mem 23) o e (mem 22 6) t (mem 22 4)
def RCH (mem m : Int → Int → Int) (o e : Int) : Prop := ∀ t : Int, 0 ≤ t → t < 40 → m 25 t = -1 ∨ m 25 t = rcV (fun i => mem 24 (e * 40 + i)) (mem 23) o e (mem 22 6) t (mem 22 4)
def PDC (mem m : Int → Int → Int) : Prop := ∀ b j : Int, b ≠ 25 → b ≠ 26 → ¬ (b = 22 ∧ 7 ≤ j ∧ j ≤ 10) → m b j = mem b j
theorem PDC.rcv {mem m : Int → Int → Int} (h : PDC mem m) (o e t : Int) : rcV (fun i => m 24 (e * 40 + i)) (m 23) o e (m 22 6) t (m 22 4) = rcV (fun i => mem 24 (e * 40 + i)) (mem 23) o e (mem 22 6) t (mem 22 4) := by
  have e1 : (fun i => m 24 (e * 40 + i)) = fun i => mem 24 (e * 40 + i) := funext fun i => h 24 _ (by omega) (by omega) (by omega)
  have e2 : m 23 = mem 23 := funext fun i => h 23 i (by omega) (by omega) (by omega)
  rw [e1, e2, h 22 6 (by omega) (by omega) (by omega), h 22 4 (by omega) (by omega) (by omega)]
theorem rcV_bd {nr rt : Int → Int} {o e h s L : Int} (hs : s ≤ L) : s ≤ rcV nr rt o e h s L ∧ rcV nr rt o e h s L ≤ L := by
  have := rcN_bd (nr := nr) (rt := rt) (o := o) (e := e) (h := h) (s := s) (L := L) (L - s).toNat s hs (by omega)
  exact ⟨this.1, this.2.1⟩
def pvV (L o m : Int) : Int := L / m * (o + 1) + (if o + 1 < L % m then o + 1 else L % m)
theorem pvV_bd {L o m : Int} (hL : 0 ≤ L ∧ L ≤ 40) (ho : 1 ≤ o ∧ o ≤ 4) (hm : o + 2 ≤ m) : 0 ≤ pvV L o m ∧ pvV L o m ≤ L := by
  have h1 := Int.mul_ediv_add_emod L m
  have h2 := Int.emod_nonneg L (by omega : m ≠ 0)
  have h3 := Int.ediv_nonneg hL.1 (by omega : 0 ≤ m)
  have h4 := Int.mul_le_mul_of_nonneg_left (show o + 1 ≤ m by omega) h3
  have h5 := Int.mul_nonneg h3 (show 0 ≤ o + 1 by omega)
  rw [Int.mul_comm] at h1
  unfold pvV
  split <;> omega
def hrV (ph L o e m : Int) : Int := ph * pvV L o m + o * (L - pvV L o m) + e * L
noncomputable def bpS (K : Int → Int → Int → Prop) (C : Int → Int → Int → Int) (o e m : Int) (S : BS) : BS := @ite BS (C o e m < S.1 ∧ K o e m) (Classical.propDecidable _) (C o e m, o, e, m) S
noncomputable def bpM (K : Int → Int → Int → Prop) (C : Int → Int → Int → Int) (o e : Int) : Nat → BS → BS
  | 0, S => S
  | k + 1, S => bpS K C o e (o + 2 + k) (bpM K C o e k S)
noncomputable def bpC (K : Int → Int → Int → Prop) (C : Int → Int → Int → Int) (o : Int) : Nat → BS → BS
  | 0, S => S
  | e + 1, S => bpM K C o e (39 - o).toNat (bpC K C o e S)
noncomputable def bpO (K : Int → Int → Int → Prop) (C : Int → Int → Int → Int) (p : Int) : Nat → BS → BS
  | 0, S => S
  | o + 1, S => bpC K C (o + 1) (7 - p).toNat (bpO K C p o S)
theorem bpM_s {K : Int → Int → Int → Prop} {C : Int → Int → Int → Int} {o e m : Int} (q : o + 2 ≤ m) (S : BS) : bpM K C o e (m + 1 - (o + 2)).toNat S = bpS K C o e m (bpM K C o e (m - (o + 2)).toNat S) := by
  rw [show (m + 1 - (o + 2)).toNat = (m - (o + 2)).toNat + 1 by omega, bpM, show o + 2 + (((m - (o + 2)).toNat : Nat) : Int) = m by omega]
theorem bpC_s {K : Int → Int → Int → Prop} {C : Int → Int → Int → Int} {o e : Int} (q : 0 ≤ e) (S : BS) : bpC K C o (e + 1).toNat S = bpM K C o e (39 - o).toNat (bpC K C o e.toNat S) := by
  rw [show (e + 1).toNat = e.toNat + 1 by omega, bpC, show ((e.toNat : Nat) : Int) = e by omega]
theorem bpO_s {K : Int → Int → Int → Prop} {C : Int → Int → Int → Int} {p o : Int} (q : 1 ≤ o) (S : BS) : bpO K C p (o + 1 - 1).toNat S = bpC K C o (7 - p).toNat (bpO K C p (o - 1).toNat S) := by
  rw [show (o + 1 - 1).toNat = (o - 1).toNat + 1 by omega, bpO, show (((o - 1).toNat : Nat) : Int) + 1 = o by omega]
theorem bpS_t {K : Int → Int → Int → Prop} {C : Int → Int → Int → Int} {o e m : Int} {S : BS} (h : C o e m < S.1) (h2 : K o e m) : bpS K C o e m S = (C o e m, o, e, m) := if_pos ⟨h, h2⟩
theorem bpS_f {K : Int → Int → Int → Prop} {C : Int → Int → Int → Int} {o e m : Int} {S : BS} (h : ¬ (C o e m < S.1 ∧ K o e m)) : bpS K C o e m S = S := if_neg h
/-- the planner's cells hold the best so far -/
def BPJ (m : Int → Int → Int) (S : BS) : Prop := m 22 7 = S.1 ∧ m 22 8 = S.2.1 ∧ m 22 9 = S.2.2.1 ∧ m 22 10 = S.2.2.2
theorem BPJ.cg {m m' : Int → Int → Int} {S : BS} (h : BPJ m S) (e : ∀ j : Int, 7 ≤ j → j ≤ 10 → m' 22 j = m 22 j) : BPJ m' S := ⟨(e 7 (by decide) (by decide)).trans h.1, (e 8 (by decide) (by decide)).trans h.2.1, (e 9 (by decide) (by decide)).trans h.2.2.1, (e 10 (by decide) (by decide)).trans h.2.2.2⟩
theorem BPJ.put {m : Int → Int → Int} {a b c d : Int} : BPJ (set2 (set2 (set2 (set2 m 22 7 a) 22 8 b) 22 9 c) 22 10 d) (a, b, c, d) := ⟨by rw [s2_k (by decide), s2_k (by decide), s2_k (by decide), s2_s], by rw [s2_k (by decide), s2_k (by decide), s2_s], by rw [s2_k (by decide), s2_s], s2_s⟩
def FOR (mem mm : Int → Int → Int) (ph : Int) (S : BS) : Prop := PDC mem mm ∧ BPJ mm S ∧ S = bpO (KAP mem) (hrV ph (mem 22 4)) (mem 22 5) 4 (1000000, mem 22 8, mem 22 9, mem 22 10)
set_option maxHeartbeats 4000000 in
set_option maxRecDepth 100000 in
theorem c_X4_reckon {l : Launch} {g : GP} (hG : GH g) {kd : Int → Nat} {ln : Int → Int} {mem : Int → Int → Int} {sz : Nat} (hK : HK kd ln) (hR : HR mem) (cv f li st pl ha : Int) (hTN : TNS g) (hck : kd cv = 2) (hc35 : 35 ≤ cv) (hcs : 0 ≤ mem cv 0 ∧ mem cv 0 ≤ 2 ∧ AB (mem cv 1) (mem cv 2)) (hA : 1 ≤ f ∧ f ≤ 9999 ∧ 2 ≤ li ∧ li ≤ 40 ∧ 1 ≤ st ∧ st ≤ 50 ∧ 0 ≤ pl ∧ pl ≤ 5 ∧ 0 ≤ ha ∧ ha ≤ 2 ∧ f + (li - 1) * st ≤ 9999) : MT l g yX4_reckon cX4_reckon 11 none 3 0 0 [(2, 22), (2, cv), (0, f), (0, li), (0, st), (0, pl), (0, ha)] kd ln mem sz (pMV (fun mem' => HR mem' ∧ ((∀ b j : Int, b ≠ 23 → b ≠ 24 → ¬ (b = 22 ∧ 4 ≤ j ∧ j ≤ 6) → mem' b j = mem b j) ∧ PKD mem' (mem cv 0) (mem cv 1) (mem cv 2) f li st pl ha)) kd ln sz) := by
  refine MT_of hG (by decide +kernel) (Nat.le_of_ble_eq_true rfl) (fun z hF hr hn => ?_)
  refine jblk hF [(.aload_n 0, 1), (.iload_n 3, 1), (.bipush 40, 2)] (by decide +kernel) (pc' := 4) (lo' := [(0, (2, 22)), (1, (2, cv)), (2, (0, f)), (3, (0, li)), (4, (0, st)), (5, (0, pl)), (6, (0, ha))]) (st' := [(0, 40), (0, li), (2, 22)]) rfl ?_
  refine jcallS hF (c_J9_min_7cf53 hG li 40 (by omega) (by decide)) MW_J9_min_7cf53 wd_1290 wd_483 (by decide +kernel) [(2, 22)] rfl rfl (by decide) (Nat.le_of_ble_eq_true rfl) (by decide) (kV ?_)
  rw [show (if 40 < li then 40 else li) = li by split <;> omega]
  refine jput hF 5 4 0 4 rfl (by decide) (by decide) rfl wd_266 (by decide +kernel) rfl (Or.inl rfl) (by exact hK.k22) (fun h => by cases h) ?_
  refine jblk hF [(.aload_n 0, 1), (.iload 5, 2)] (by decide +kernel) (pc' := 13) (lo' := [(0, (2, 22)), (1, (2, cv)), (2, (0, f)), (3, (0, li)), (4, (0, st)), (5, (0, pl)), (6, (0, ha))]) (st' := [(0, pl), (2, 22)]) rfl ?_
  refine jput hF 5 5 0 5 rfl (by decide) (by decide) rfl wd_267 (by decide +kernel) rfl (Or.inl rfl) (by exact hK.k22) (fun h => by cases h) ?_
  refine jblk hF [(.aload_n 0, 1), (.iload 6, 2)] (by decide +kernel) (pc' := 19) (lo' := [(0, (2, 22)), (1, (2, cv)), (2, (0, f)), (3, (0, li)), (4, (0, st)), (5, (0, pl)), (6, (0, ha))]) (st' := [(0, ha), (2, 22)]) rfl ?_
  refine jput hF 5 6 0 6 rfl (by decide) (by decide) rfl wd_268 (by decide +kernel) rfl (Or.inl rfl) (by exact hK.k22) (fun h => by cases h) ?_
  refine jblk hF [(.iconst 0, 1), (.istore 7, 2)] (by decide +kernel) (pc' := 25) (lo' := [(7, (0, 0)), (0, (2, 22)), (1, (2, cv)), (2, (0, f)), (3, (0, li)), (4, (0, st)), (5, (0, pl)), (6, (0, ha))]) (st' := []) rfl ?_
  have L_2 : ∀ (fu_3 : Nat) (n : Int) (m : Int → Int → Int), (HR m) → (0 ≤ n ∧ n ≤ li) → (∀ b j : Int, b ≠ 23 → b ≠ 24 → ¬ (b = 22 ∧ 4 ≤ j ∧ j ≤ 6) → m b j = mem b j) → (m 22 4 = li ∧ m 22 5 = pl ∧ m 22 6 = ha) → (PKJ m (mem cv 0) (mem cv 1) (mem cv 2) f st pl ha n) →  (li - n).toNat < fu_3 → J z g 11 0 0 (QM z g 0 0 (pMV (fun mem' => HR mem' ∧ ((∀ b j : Int, b ≠ 23 → b ≠ 24 → ¬ (b = 22 ∧ 4 ≤ j ∧ j ≤ 6) → mem' b j = mem b j) ∧ PKD mem' (mem cv 0) (mem cv 1) (mem cv 2) f li st pl ha)) kd ln sz)) 25 [(0, (2, 22)), (1, (2, cv)), (2, (0, f)), (3, (0, li)), (4, (0, st)), (5, (0, pl)), (6, (0, ha)), (7, (0, n))] [] kd ln m sz := by
    intro fu_3
    induction fu_3 with
    | zero => intro n m _ _ _ _ _ hm; omega
    | succ fu_3 ih_1 =>
      intro n m hR_m hnn hf h4 hj hm
      have e0 : m cv 0 = mem cv 0 := hf cv 0 (by omega) (by omega) (by omega)
      have e1 : m cv 1 = mem cv 1 := hf cv 1 (by omega) (by omega) (by omega)
      have e2 : m cv 2 = mem cv 2 := hf cv 2 (by omega) (by omega) (by omega)
      have g4 := h4.1
      have g5 := h4.2.1
      have g6 := h4.2.2
      refine jblk hF [(.iload 7, 2), (.aload_n 0, 1)] (by decide +kernel) (pc' := 28) (lo' := [(0, (2, 22)), (1, (2, cv)), (2, (0, f)), (3, (0, li)), (4, (0, st)), (5, (0, pl)), (6, (0, ha)), (7, (0, n))]) (st' := [(2, 22), (0, n)]) rfl ?_
      refine jget hF 5 4 0 4 rfl (by decide) (by decide) rfl wd_266 (by decide +kernel) (by exact hK.k22) ?_
      refine jicmp_ge hF (off := 95) 126 (by decide +kernel) (by decide) (by omega) (by omega) (fun h_4 => ?_) (fun h_4 => ?_)
      · refine jvret hF hr (by decide +kernel) ?_
        exact lMV ⟨hR_m, by exact ⟨hf, h4.1, h4.2.1, h4.2.2, by rw [show li = n by omega]; exact hj.1, by rw [show li = n by omega]; exact hj.2⟩⟩
      · have hxb := line_x (n := n) (show 1 ≤ f by omega) (by omega) (show f + (li - 1) * st ≤ 9999 by omega) (by omega) (by omega)
        have hnb := mul_bd (a := n) (b := st) (M := 40) (N := 50) (by omega) (by omega)
        refine jblk hF [(.aload_n 1, 1), (.iload_n 2, 1), (.iload 7, 2), (.iload 4, 2), (.imul, 1), (.iadd, 1)] (by decide +kernel) (pc' := 42) (lo' := [(0, (2, 22)), (1, (2, cv)), (2, (0, f)), (3, (0, li)), (4, (0, st)), (5, (0, pl)), (6, (0, ha)), (7, (0, n))]) (st' := [(0, f + (n * st)), (2, cv)]) rfl ?_
        refine jcallV hF (c_X0_quartersAt hG hK hR_m cv (f + (n * st)) (by omega) (by assumption) (by first | assumption | omega) (by omega) (by omega) (by omega)) MW_X0_quartersAt 1 (by decide) (by first | assumption | omega) wd_1291 wd_514 wd_515 (by decide +kernel) [] rfl rfl (by decide) (Nat.le_of_ble_eq_true rfl) (by decide) (kV ?_)
        have hqn : ∀ h p : Int, 0 ≤ p → p ≤ 6 → nearBy (qV (m cv 0) (m cv 1) (m cv 2) (f + (n * st))) (4 * (10 : Int) ^ (6 - p).toNat) h = nearV (mem cv 0) (mem cv 1) (mem cv 2) (f + n * st) p h := fun h p q1 q2 => by rw [e0, e1, e2]; exact qV_near h hcs.2.2 (by omega)
        have hqb := qV_bd (s := m cv 0) (a := m cv 1) (b := m cv 2) (x := f + n * st) (by rw [e1, e2]; exact hcs.2.2) hxb
        have hu0 := unit_bd (p := m 22 5) (by omega)
        refine jblk hF [(.lstore 8, 2), (.aload_n 0, 1)] (by decide +kernel) (pc' := 48) (lo' := [(8, (1, qV (m cv 0) (m cv 1) (m cv 2) (f + (n * st)))), (0, (2, 22)), (1, (2, cv)), (2, (0, f)), (3, (0, li)), (4, (0, st)), (5, (0, pl)), (6, (0, ha)), (7, (0, n))]) (st' := [(2, 22)]) rfl ?_
        refine jget hF 5 0 2 0 rfl (by decide) (by decide) rfl wd_262 (by decide +kernel) (by exact hK.k22) ?_
        rw [HR.r22_0 hR_m]
        refine jblk hF [(.iload 7, 2), (.lload 8, 2), (.aload_n 0, 1)] (by decide +kernel) (pc' := 56) (lo' := [(8, (1, qV (m cv 0) (m cv 1) (m cv 2) (f + (n * st)))), (0, (2, 22)), (1, (2, cv)), (2, (0, f)), (3, (0, li)), (4, (0, st)), (5, (0, pl)), (6, (0, ha)), (7, (0, n))]) (st' := [(2, 22), (1, qV (m cv 0) (m cv 1) (m cv 2) (f + (n * st))), (0, n), (2, 23)]) rfl ?_
        refine jget hF 5 5 0 5 rfl (by decide) (by decide) rfl wd_267 (by decide +kernel) (by exact hK.k22) ?_
        refine jcallSN hF (c_X11_unitOf hG hK hR_m (m 22 5) (by assumption) (by omega)) MW_X11_unitOf wd_1292 wd_529 (by decide +kernel) [(1, qV (m cv 0) (m cv 1) (m cv 2) (f + (n * st))), (0, n), (2, 23)] rfl rfl (by decide) (Nat.le_of_ble_eq_true rfl) (by decide) (kV ?_)
        refine jblk hF [(.aload_n 0, 1)] (by decide +kernel) (pc' := 63) (lo' := [(8, (1, qV (m cv 0) (m cv 1) (m cv 2) (f + (n * st)))), (0, (2, 22)), (1, (2, cv)), (2, (0, f)), (3, (0, li)), (4, (0, st)), (5, (0, pl)), (6, (0, ha)), (7, (0, n))]) (st' := [(2, 22), (1, 4 * 10 ^ (6 - (m 22 5)).toNat), (1, qV (m cv 0) (m cv 1) (m cv 2) (f + (n * st))), (0, n), (2, 23)]) rfl ?_
        refine jget hF 5 6 0 6 rfl (by decide) (by decide) rfl wd_268 (by decide +kernel) (by exact hK.k22) ?_
        refine jcallSN hF (c_X11_rounded hG (qV (m cv 0) (m cv 1) (m cv 2) (f + (n * st))) (4 * 10 ^ (6 - (m 22 5)).toNat) (m 22 6) (by omega) (by omega) (by omega)) MW_X11_rounded wd_1293 wd_554 (by decide +kernel) [(0, n), (2, 23)] rfl rfl (by decide) (Nat.le_of_ble_eq_true rfl) (by decide) (kV ?_)
        rw [g5, g6, hqn _ _ (by omega) (by omega)]
        refine jlast hF (by decide +kernel) (by decide) (by exact hK.k23) (by omega) (by have := hK.l23; omega) ?_
        refine jblk hF [(.iconst 0, 1), (.istore 10, 2)] (by decide +kernel) (pc' := 73) (lo' := [(10, (0, 0)), (8, (1, qV (m cv 0) (m cv 1) (m cv 2) (f + (n * st)))), (0, (2, 22)), (1, (2, cv)), (2, (0, f)), (3, (0, li)), (4, (0, st)), (5, (0, pl)), (6, (0, ha)), (7, (0, n))]) (st' := []) rfl ?_
        have L_6 : ∀ (fu_7 : Nat) (e : Int) (m2 : Int → Int → Int), (HR m2) → (0 ≤ e ∧ e ≤ 7 - pl) → (∀ b j : Int, b ≠ 23 → b ≠ 24 → ¬ (b = 22 ∧ 4 ≤ j ∧ j ≤ 6) → m2 b j = mem b j) → (m2 22 4 = li ∧ m2 22 5 = pl ∧ m2 22 6 = ha) → ((∀ i : Int, 0 ≤ i → i < n + 1 → m2 23 i = nearV (mem cv 0) (mem cv 1) (mem cv 2) (f + i * st) pl ha) ∧ ∀ i e : Int, 0 ≤ i → i < n → 0 ≤ e → e ≤ 6 - pl → m2 24 (e * 40 + i) = nearV (mem cv 0) (mem cv 1) (mem cv 2) (f + i * st) (pl + e) 0) → (∀ e2 : Int, 0 ≤ e2 → e2 < e → m2 24 (e2 * 40 + n) = nearV (mem cv 0) (mem cv 1) (mem cv 2) (f + n * st) (pl + e2) 0) →  (7 - pl - e).toNat < fu_7 → J z g 11 0 0 (QM z g 0 0 (pMV (fun mem' => HR mem' ∧ ((∀ b j : Int, b ≠ 23 → b ≠ 24 → ¬ (b = 22 ∧ 4 ≤ j ∧ j ≤ 6) → mem' b j = mem b j) ∧ PKD mem' (mem cv 0) (mem cv 1) (mem cv 2) f li st pl ha)) kd ln sz)) 73 [(0, (2, 22)), (1, (2, cv)), (2, (0, f)), (3, (0, li)), (4, (0, st)), (5, (0, pl)), (6, (0, ha)), (7, (0, n)), (8, (1, qV (m cv 0) (m cv 1) (m cv 2) (f + (n * st)))), (10, (0, e))] [] kd ln m2 sz := by
          intro fu_7
          induction fu_7 with
          | zero => intro e m2 _ _ _ _ _ _ hm; omega
          | succ fu_7 ih_5 =>
            intro e m2 hR_m2 he hf2 h42 hj2 hl2 hm9
            have g42 := h42.1
            have g52 := h42.2.1
            have g62 := h42.2.2
            refine jblk hF [(.iload 10, 2), (.bipush 6, 2), (.aload_n 0, 1)] (by decide +kernel) (pc' := 78) (lo' := [(0, (2, 22)), (1, (2, cv)), (2, (0, f)), (3, (0, li)), (4, (0, st)), (5, (0, pl)), (6, (0, ha)), (7, (0, n)), (8, (1, qV (m cv 0) (m cv 1) (m cv 2) (f + (n * st)))), (10, (0, e))]) (st' := [(2, 22), (0, 6), (0, e)]) rfl ?_
            refine jget hF 5 5 0 5 rfl (by decide) (by decide) rfl wd_267 (by decide +kernel) (by exact hK.k22) ?_
            refine jblk hF [(.isub, 1)] (by decide +kernel) (pc' := 82) (lo' := [(0, (2, 22)), (1, (2, cv)), (2, (0, f)), (3, (0, li)), (4, (0, st)), (5, (0, pl)), (6, (0, ha)), (7, (0, n)), (8, (1, qV (m cv 0) (m cv 1) (m cv 2) (f + (n * st)))), (10, (0, e))]) (st' := [(0, 6 - (m2 22 5)), (0, e)]) rfl ?_
            refine jicmp_gt hF (off := 38) 120 (by decide +kernel) (by decide) (by omega) (by omega) (fun h_8 => ?_) (fun h_8 => ?_)
            · refine jblk hF [(.iinc 7 1, 3)] (by decide +kernel) (pc' := 123) (lo' := [(7, (0, n + 1)), (0, (2, 22)), (1, (2, cv)), (2, (0, f)), (3, (0, li)), (4, (0, st)), (5, (0, pl)), (6, (0, ha)), (8, (1, qV (m cv 0) (m cv 1) (m cv 2) (f + (n * st)))), (10, (0, e))]) (st' := []) rfl ?_
              refine jgoto hF (off := (-98)) 25 (by decide +kernel) (by decide) ?_
              refine jsub [1, 2, 3, 4, 5, 6, 7, 0] rfl ?_
              refine ih_1 (n + 1) m2 ?_ ?_ ?_ ?_ ?_ ?_
              · exact hR_m2
              · omega
              · exact hf2
              · exact h42
              · exact ⟨fun i q1 q2 => hj2.1 i q1 (by omega), fun i e2 q1 q2 q3 q4 => by by_cases w : i = n; (rw [w]; exact hl2 e2 q3 (by omega)); exact hj2.2 i e2 q1 (by omega) q3 q4⟩
              · omega
            · refine jblk hF [(.aload_n 0, 1)] (by decide +kernel) (pc' := 86) (lo' := [(0, (2, 22)), (1, (2, cv)), (2, (0, f)), (3, (0, li)), (4, (0, st)), (5, (0, pl)), (6, (0, ha)), (7, (0, n)), (8, (1, qV (m cv 0) (m cv 1) (m cv 2) (f + (n * st)))), (10, (0, e))]) (st' := [(2, 22)]) rfl ?_
              refine jget hF 5 1 2 1 rfl (by decide) (by decide) rfl wd_263 (by decide +kernel) (by exact hK.k22) ?_
              rw [HR.r22_1 hR_m2]
              refine jblk hF [(.iload 10, 2), (.bipush 40, 2), (.imul, 1), (.iload 7, 2), (.iadd, 1)] (by decide +kernel) (pc' := 97) (lo' := [(0, (2, 22)), (1, (2, cv)), (2, (0, f)), (3, (0, li)), (4, (0, st)), (5, (0, pl)), (6, (0, ha)), (7, (0, n)), (8, (1, qV (m cv 0) (m cv 1) (m cv 2) (f + (n * st)))), (10, (0, e))]) (st' := [(0, (e * 40) + n), (2, 24)]) rfl ?_
              have hu1 := unit_bd (p := pl + e) (by omega)
              have hu2 := unit_bd (p := m2 22 5 + e) (by omega)
              refine jblk hF [(.lload 8, 2), (.aload_n 0, 1)] (by decide +kernel) (pc' := 100) (lo' := [(0, (2, 22)), (1, (2, cv)), (2, (0, f)), (3, (0, li)), (4, (0, st)), (5, (0, pl)), (6, (0, ha)), (7, (0, n)), (8, (1, qV (m cv 0) (m cv 1) (m cv 2) (f + (n * st)))), (10, (0, e))]) (st' := [(2, 22), (1, qV (m cv 0) (m cv 1) (m cv 2) (f + (n * st))), (0, (e * 40) + n), (2, 24)]) rfl ?_
              refine jget hF 5 5 0 5 rfl (by decide) (by decide) rfl wd_267 (by decide +kernel) (by exact hK.k22) ?_
              refine jblk hF [(.iload 10, 2), (.iadd, 1)] (by decide +kernel) (pc' := 106) (lo' := [(0, (2, 22)), (1, (2, cv)), (2, (0, f)), (3, (0, li)), (4, (0, st)), (5, (0, pl)), (6, (0, ha)), (7, (0, n)), (8, (1, qV (m cv 0) (m cv 1) (m cv 2) (f + (n * st)))), (10, (0, e))]) (st' := [(0, (m2 22 5) + e), (1, qV (m cv 0) (m cv 1) (m cv 2) (f + (n * st))), (0, (e * 40) + n), (2, 24)]) rfl ?_
              refine jcallSN hF (c_X11_unitOf hG hK hR_m2 ((m2 22 5) + e) (by assumption) (by omega)) MW_X11_unitOf wd_1292 wd_529 (by decide +kernel) [(1, qV (m cv 0) (m cv 1) (m cv 2) (f + (n * st))), (0, (e * 40) + n), (2, 24)] rfl rfl (by decide) (Nat.le_of_ble_eq_true rfl) (by decide) (kV ?_)
              refine jblk hF [(.iconst 0, 1)] (by decide +kernel) (pc' := 110) (lo' := [(0, (2, 22)), (1, (2, cv)), (2, (0, f)), (3, (0, li)), (4, (0, st)), (5, (0, pl)), (6, (0, ha)), (7, (0, n)), (8, (1, qV (m cv 0) (m cv 1) (m cv 2) (f + (n * st)))), (10, (0, e))]) (st' := [(0, 0), (1, 4 * 10 ^ (6 - ((m2 22 5) + e)).toNat), (1, qV (m cv 0) (m cv 1) (m cv 2) (f + (n * st))), (0, (e * 40) + n), (2, 24)]) rfl ?_
              refine jcallSN hF (c_X11_rounded hG (qV (m cv 0) (m cv 1) (m cv 2) (f + (n * st))) (4 * 10 ^ (6 - ((m2 22 5) + e)).toNat) 0 (by omega) (by omega) (by omega)) MW_X11_rounded wd_1293 wd_554 (by decide +kernel) [(0, (e * 40) + n), (2, 24)] rfl rfl (by decide) (Nat.le_of_ble_eq_true rfl) (by decide) (kV ?_)
              rw [g52, hqn _ _ (by omega) (by omega)]
              refine jlast hF (by decide +kernel) (by decide) (by exact hK.k24) (by omega) (by have := hK.l24; omega) ?_
              refine jblk hF [(.iinc 10 1, 3)] (by decide +kernel) (pc' := 117) (lo' := [(10, (0, e + 1)), (0, (2, 22)), (1, (2, cv)), (2, (0, f)), (3, (0, li)), (4, (0, st)), (5, (0, pl)), (6, (0, ha)), (7, (0, n)), (8, (1, qV (m cv 0) (m cv 1) (m cv 2) (f + (n * st))))]) (st' := []) rfl ?_
              refine jgoto hF (off := (-44)) 73 (by decide +kernel) (by decide) ?_
              refine jsub [1, 2, 3, 4, 5, 6, 7, 8, 9, 0] rfl ?_
              refine ih_5 (e + 1) (set2 m2 24 ((e * 40) + n) (nearV (mem cv 0) (mem cv 1) (mem cv 2) (f + n * st) (pl + e) 0)) ?_ ?_ ?_ ?_ ?_ ?_ ?_
              · exact (HR.s hR_m2 (by omega))
              · omega
              · (intro b j q1 q2 q3; rw [s2_a q2]; exact hf2 b j q1 q2 q3)
              · exact h42
              · exact ⟨fun i q1 q2 => by rw [s2_a (by decide)]; exact hj2.1 i q1 q2, fun i e3 q1 q2 q3 q4 => by rw [s2_k (by omega)]; exact hj2.2 i e3 q1 q2 q3 q4⟩
              · (intro e2 q1 q2; by_cases w : e2 = e; (rw [w, s2_s]); (rw [s2_k (by omega)]; exact hl2 e2 q1 (by omega)))
              · omega
        refine jsub [2, 3, 4, 5, 6, 7, 8, 9, 1, 0] rfl ?_
        refine L_6 _ 0 (set2 m 23 n (nearV (mem cv 0) (mem cv 1) (mem cv 2) (f + n * st) pl ha)) ?_ ?_ ?_ ?_ ?_ ?_ (Nat.lt_succ_self _)
        · exact (HR.s hR_m (by omega))
        · omega
        · (intro b j q1 q2 q3; rw [s2_a q1]; exact hf b j q1 q2 q3)
        · exact h4
        · exact ⟨fun i q1 q2 => by by_cases w : i = n; (rw [w, s2_s]); (rw [s2_k w]; exact hj.1 i q1 (by omega)), fun i e q1 q2 q3 q4 => by rw [s2_a (by decide)]; exact hj.2 i e q1 q2 q3 q4⟩
        · (intro e2 q1 q2; omega)
  refine jsub [1, 2, 3, 4, 5, 6, 7, 0] rfl ?_
  refine L_2 _ 0 (set2 (set2 (set2 mem 22 4 li) 22 5 pl) 22 6 ha) ?_ ?_ ?_ ?_ ?_ (Nat.lt_succ_self _)
  · exact (HR.s (HR.s (HR.s hR (by omega)) (by omega)) (by omega))
  · omega
  · (intro b j _ _ q3; unfold set2; rw [if_neg (by omega), if_neg (by omega), if_neg (by omega)])
  · exact ⟨by rw [s2_k (by decide), s2_k (by decide), s2_s], by rw [s2_k (by decide), s2_s], s2_s⟩
  · exact ⟨fun i q1 q2 => by omega, fun i e q1 q2 => by omega⟩
set_option maxHeartbeats 4000000 in
set_option maxRecDepth 100000 in
theorem c_X4_pivotsOf {l : Launch} {g : GP} (hG : GH g) {kd : Int → Nat} {ln : Int → Int} {mem : Int → Int → Int} {sz : Nat} (hK : HK kd ln) (hR : HR mem) (o m : Int) (hom : 1 ≤ o ∧ o ≤ 4 ∧ o + 2 ≤ m ∧ m ≤ 40 ∧ 0 ≤ mem 22 4 ∧ mem 22 4 ≤ 40) : MT l g yX4_pivotsOf cX4_pivotsOf 3 (some .int) 1 0 0 [(2, 22), (0, o), (0, m)] kd ln mem sz (pV (0, pvV (mem 22 4) o m) kd ln mem sz) := by
  refine MT_of hG (by decide +kernel) (Nat.le_of_ble_eq_true rfl) (fun z hF hr hn => ?_)
  have hq := emod_bd2 (mem 22 4) m (by omega)
  have hqd := (ediv_bd (mem 22 4) m (by omega)).1 (by omega)
  refine jblk hF [(.iload_n 2, 1)] (by decide +kernel) (pc' := 1) (lo' := [(0, (2, 22)), (1, (0, o)), (2, (0, m))]) (st' := [(0, m)]) rfl ?_
  refine jif_gt hF (off := 8) 9 (by decide +kernel) (by decide) (by omega) (fun h_1 => ?_) (fun h_1 => ?_)
  · refine jblk hF [(.aload_n 0, 1)] (by decide +kernel) (pc' := 10) (lo' := [(0, (2, 22)), (1, (0, o)), (2, (0, m))]) (st' := [(2, 22)]) rfl ?_
    refine jget hF 5 4 0 4 rfl (by decide) (by decide) rfl wd_266 (by decide +kernel) (by exact hK.k22) ?_
    refine jblk hF [(.iload_n 2, 1)] (by decide +kernel) (pc' := 14) (lo' := [(0, (2, 22)), (1, (0, o)), (2, (0, m))]) (st' := [(0, m), (0, mem 22 4)]) rfl ?_
    refine jidivN hF (by decide +kernel) (by omega) (by omega) ?_
    refine jblk hF [(.iload_n 1, 1), (.iconst 1, 1), (.iadd, 1), (.imul, 1), (.aload_n 0, 1)] (by decide +kernel) (pc' := 20) (lo' := [(0, (2, 22)), (1, (0, o)), (2, (0, m))]) (st' := [(2, 22), (0, ((mem 22 4) / m) * (o + 1))]) rfl ?_
    refine jget hF 5 4 0 4 rfl (by decide) (by decide) rfl wd_266 (by decide +kernel) (by exact hK.k22) ?_
    refine jblk hF [(.iload_n 2, 1)] (by decide +kernel) (pc' := 24) (lo' := [(0, (2, 22)), (1, (0, o)), (2, (0, m))]) (st' := [(0, m), (0, mem 22 4), (0, ((mem 22 4) / m) * (o + 1))]) rfl ?_
    refine jiremN hF (by decide +kernel) (by omega) (by omega) ?_
    refine jblk hF [(.iload_n 1, 1), (.iconst 1, 1), (.iadd, 1)] (by decide +kernel) (pc' := 28) (lo' := [(0, (2, 22)), (1, (0, o)), (2, (0, m))]) (st' := [(0, o + 1), (0, (mem 22 4) % m), (0, ((mem 22 4) / m) * (o + 1))]) rfl ?_
    refine jcallS hF (c_J9_min_7cf53 hG ((mem 22 4) % m) (o + 1) (by omega) (by omega)) MW_J9_min_7cf53 wd_1290 wd_483 (by decide +kernel) [(0, ((mem 22 4) / m) * (o + 1))] rfl rfl (by decide) (Nat.le_of_ble_eq_true rfl) (by decide) (kV ?_)
    refine jblk hF [(.iadd, 1)] (by decide +kernel) (pc' := 32) (lo' := [(0, (2, 22)), (1, (0, o)), (2, (0, m))]) (st' := [(0, (((mem 22 4) / m) * (o + 1)) + (if (o + 1) < ((mem 22 4) % m) then (o + 1) else ((mem 22 4) % m)))]) rfl ?_
    refine jiret hF hr (by decide +kernel) ?_
    exact lV (by first | (exfalso; omega) | rfl)
  · refine jblk hF [(.aload_n 0, 1)] (by decide +kernel) (pc' := 5) (lo' := [(0, (2, 22)), (1, (0, o)), (2, (0, m))]) (st' := [(2, 22)]) rfl ?_
    refine jget hF 5 4 0 4 rfl (by decide) (by decide) rfl wd_266 (by decide +kernel) (by exact hK.k22) ?_
    refine jiret hF hr (by decide +kernel) ?_
    exact lV (by first | (exfalso; omega) | rfl)
set_option maxHeartbeats 4000000 in
set_option maxRecDepth 100000 in
theorem c_X4_keepsAll {l : Launch} {g : GP} (hG : GH g) {kd : Int → Nat} {ln : Int → Int} {mem : Int → Int → Int} {sz : Nat} (hK : HK kd ln) (hR : HR mem) (o e m : Int) (hTN : TNS g) (hoe : 1 ≤ o ∧ o ≤ 4 ∧ 0 ≤ e ∧ e ≤ 6 ∧ o + 2 ≤ m ∧ m ≤ 40 ∧ 0 ≤ mem 22 4 ∧ mem 22 4 ≤ 40 ∧ 0 ≤ mem 22 6 ∧ mem 22 6 ≤ 2) (hch : RCH mem mem o e) : MT l g yX4_keepsAll cX4_keepsAll 5 (some .boolean) 4 0 0 [(2, 22), (0, o), (0, e), (0, m)] kd ln mem sz (pMB (fun c mem' => HR mem' ∧ ((c ↔ KAP mem o e m) ∧ RCH mem mem' o e ∧ ∀ b j : Int, b ≠ 25 → b ≠ 26 → mem' b j = mem b j)) kd ln sz) := by
  refine MT_of hG (by decide +kernel) (Nat.le_of_ble_eq_true rfl) (fun z hF hr hn => ?_)
  refine jblk hF [(.iconst 0, 1), (.istore 4, 2)] (by decide +kernel) (pc' := 3) (lo' := [(4, (0, 0)), (0, (2, 22)), (1, (0, o)), (2, (0, e)), (3, (0, m))]) (st' := []) rfl ?_
  have L_2 : ∀ (fu_3 : Nat) (t : Int) (k : Int → Int → Int), (HR k) → (0 ≤ t ∧ t ≤ 100 ∧ t % m = 0) → (∀ b j : Int, b ≠ 25 → b ≠ 26 → k b j = mem b j) → (RCH mem k o e) → (∀ i : Int, 0 ≤ i → i < t → i < mem 22 4 → i % m = 0 → (if i + m < mem 22 4 then i + m else mem 22 4) ≤ rcV (fun i => mem 24 (e * 40 + i)) (mem 23) o e (mem 22 6) i (mem 22 4)) →  (mem 22 4 - t).toNat < fu_3 → J z g 5 0 0 (QM z g 0 0 (pMB (fun c mem' => HR mem' ∧ ((c ↔ KAP mem o e m) ∧ RCH mem mem' o e ∧ ∀ b j : Int, b ≠ 25 → b ≠ 26 → mem' b j = mem b j)) kd ln sz)) 3 [(0, (2, 22)), (1, (0, o)), (2, (0, e)), (3, (0, m)), (4, (0, t))] [] kd ln k sz := by
    intro fu_3
    induction fu_3 with
    | zero => intro t k _ _ _ _ _ hm; omega
    | succ fu_3 ih_1 =>
      intro t k hR_k ht hf hck hal hm
      have f4 : k 22 4 = mem 22 4 := hf 22 4 (by decide) (by decide)
      have f6 : k 22 6 = mem 22 6 := hf 22 6 (by decide) (by decide)
      have hpd : PDC mem k := fun b j q1 q2 _ => hf b j q1 q2
      refine jblk hF [(.iload 4, 2), (.aload_n 0, 1)] (by decide +kernel) (pc' := 6) (lo' := [(0, (2, 22)), (1, (0, o)), (2, (0, e)), (3, (0, m)), (4, (0, t))]) (st' := [(2, 22), (0, t)]) rfl ?_
      refine jget hF 5 4 0 4 rfl (by decide) (by decide) rfl wd_266 (by decide +kernel) (by exact hK.k22) ?_
      refine jicmp_ge hF (off := 65) 74 (by decide +kernel) (by decide) (by omega) (by omega) (fun h_4 => ?_) (fun h_4 => ?_)
      · refine jblk hF [(.iconst 1, 1)] (by decide +kernel) (pc' := 75) (lo' := [(0, (2, 22)), (1, (0, o)), (2, (0, e)), (3, (0, m)), (4, (0, t))]) (st' := [(0, 1)]) rfl ?_
        refine jzret hF hr (by omega) (by decide +kernel) ?_
        exact lMB1 ⟨hR_k, by first | (exfalso; omega) | exact ⟨⟨fun _ => fun i q1 q2 q3 => hal i q1 (by omega) q2 q3, fun _ => trivial⟩, hck, hf⟩⟩
      · refine jblk hF [(.iload_n 3, 1)] (by decide +kernel) (pc' := 13) (lo' := [(0, (2, 22)), (1, (0, o)), (2, (0, e)), (3, (0, m)), (4, (0, t))]) (st' := [(0, m)]) rfl ?_
        refine jif_le hF (off := 61) 74 (by decide +kernel) (by decide) (by omega) (fun h_5 => ?_) (fun h_5 => ?_)
        · refine jblk hF [(.iconst 1, 1)] (by decide +kernel) (pc' := 75) (lo' := [(0, (2, 22)), (1, (0, o)), (2, (0, e)), (3, (0, m)), (4, (0, t))]) (st' := [(0, 1)]) rfl ?_
          refine jzret hF hr (by omega) (by decide +kernel) ?_
          exact lMB1 ⟨hR_k, by first | (exfalso; omega) | exact ⟨⟨fun _ => fun i q1 q2 q3 => hal i q1 (by omega) q2 q3, fun _ => trivial⟩, hck, hf⟩⟩
        · refine jblk hF [(.aload_n 0, 1)] (by decide +kernel) (pc' := 17) (lo' := [(0, (2, 22)), (1, (0, o)), (2, (0, e)), (3, (0, m)), (4, (0, t))]) (st' := [(2, 22)]) rfl ?_
          refine jget hF 5 2 2 2 rfl (by decide) (by decide) rfl wd_264 (by decide +kernel) (by exact hK.k22) ?_
          rw [HR.r22_2 hR_k]
          have hrb := rcV_bd (nr := fun i => mem 24 (e * 40 + i)) (rt := mem 23) (o := o) (e := e) (h := mem 22 6) (s := t) (L := mem 22 4) (by omega)
          have hct := hck t (by omega) (by omega)
          refine jblk hF [(.iload 4, 2)] (by decide +kernel) (pc' := 22) (lo' := [(0, (2, 22)), (1, (0, o)), (2, (0, e)), (3, (0, m)), (4, (0, t))]) (st' := [(0, t), (2, 25)]) rfl ?_
          refine jiald hF (by decide +kernel) (by exact hK.k25) (by omega) (by have := hK.l25; omega) ?_
          refine jblk hF [(.iconst (-1), 1)] (by decide +kernel) (pc' := 24) (lo' := [(0, (2, 22)), (1, (0, o)), (2, (0, e)), (3, (0, m)), (4, (0, t))]) (st' := [(0, (-1)), (0, k 25 t)]) rfl ?_
          refine jicmp_ne hF (off := 18) 42 (by decide +kernel) (by decide) (by omega) (by decide) (fun h_6 => ?_) (fun h_6 => ?_)
          · obtain ⟨hfx, hcx, hxt⟩ : (∀ b j : Int, b ≠ 25 → b ≠ 26 → k b j = mem b j) ∧ RCH mem k o e ∧ k 25 t = rcV (fun i => mem 24 (e * 40 + i)) (mem 23) o e (mem 22 6) t (mem 22 4) := by
              first
              | exact ⟨hf, hck, hct.resolve_left (by assumption)⟩
              | exact ⟨fun b j q1 q2 => by rw [s2_a q1]; exact (hq5.2 b j q2).trans (hf b j q1 q2), fun i q1 q2 => by by_cases w : i = t; (rw [w, s2_s]; exact Or.inr hvl); (rw [s2_k w, hq5.2 25 i (by decide)]; exact hck i q1 q2), by rw [s2_s]; exact hvl⟩
            have fx4 : k 22 4 = mem 22 4 := hfx 22 4 (by decide) (by decide)
            refine jblk hF [(.aload_n 0, 1)] (by decide +kernel) (pc' := 43) (lo' := [(0, (2, 22)), (1, (0, o)), (2, (0, e)), (3, (0, m)), (4, (0, t))]) (st' := [(2, 22)]) rfl ?_
            refine jget hF 5 2 2 2 rfl (by decide) (by decide) rfl wd_264 (by decide +kernel) (by exact hK.k22) ?_
            rw [HR.r22_2 hR_k]
            refine jblk hF [(.iload 4, 2)] (by decide +kernel) (pc' := 48) (lo' := [(0, (2, 22)), (1, (0, o)), (2, (0, e)), (3, (0, m)), (4, (0, t))]) (st' := [(0, t), (2, 25)]) rfl ?_
            refine jiald hF (by decide +kernel) (by exact hK.k25) (by omega) (by have := hK.l25; omega) ?_
            refine jblk hF [(.aload_n 0, 1)] (by decide +kernel) (pc' := 50) (lo' := [(0, (2, 22)), (1, (0, o)), (2, (0, e)), (3, (0, m)), (4, (0, t))]) (st' := [(2, 22), (0, k 25 t)]) rfl ?_
            refine jget hF 5 4 0 4 rfl (by decide) (by decide) rfl wd_266 (by decide +kernel) (by exact hK.k22) ?_
            refine jblk hF [(.iload 4, 2), (.iload_n 3, 1), (.iadd, 1)] (by decide +kernel) (pc' := 57) (lo' := [(0, (2, 22)), (1, (0, o)), (2, (0, e)), (3, (0, m)), (4, (0, t))]) (st' := [(0, t + m), (0, k 22 4), (0, k 25 t)]) rfl ?_
            refine jcallS hF (c_J9_min_7cf53 hG (k 22 4) (t + m) (by omega) (by omega)) MW_J9_min_7cf53 wd_1290 wd_483 (by decide +kernel) [(0, k 25 t)] rfl rfl (by decide) (Nat.le_of_ble_eq_true rfl) (by decide) (kV ?_)
            refine jicmp_ge hF (off := 5) 65 (by decide +kernel) (by decide) (by omega) (by omega) (fun h_7 => ?_) (fun h_7 => ?_)
            · refine jblk hF [(.iload 4, 2), (.iload_n 3, 1), (.iadd, 1), (.istore 4, 2)] (by decide +kernel) (pc' := 71) (lo' := [(4, (0, t + m)), (0, (2, 22)), (1, (0, o)), (2, (0, e)), (3, (0, m))]) (st' := []) rfl ?_
              refine jgoto hF (off := (-68)) 3 (by decide +kernel) (by decide) ?_
              refine jsub [1, 2, 3, 4, 0] rfl ?_
              refine ih_1 (t + m) k ?_ ?_ ?_ ?_ ?_ ?_
              · exact hR_k
              · exact ⟨by omega, by omega, by rw [Int.add_emod_right]; exact ht.2.2⟩
              · exact hfx
              · exact hcx
              · (intro i q1 q2 q3 q4; by_cases w : i < t; exact hal i q1 w q3 q4; (have hit : i = t := (by
                have h1 := Int.mul_ediv_add_emod i m
                have h2 := Int.mul_ediv_add_emod t m
                rw [q4] at h1
                rw [ht.2.2] at h2
                have h3 : t / m ≤ i / m := Int.ediv_le_ediv (by omega) (by omega)
                have h4 : i / m < t / m + 1 := Int.lt_of_mul_lt_mul_left (a := m) (by rw [Int.mul_add, Int.mul_one]; omega) (by omega)
                have h5 : i / m = t / m := by omega
                rw [h5] at h1
                omega)); rw [hit]; omega)
              · omega
            · refine jblk hF [(.iconst 0, 1)] (by decide +kernel) (pc' := 64) (lo' := [(0, (2, 22)), (1, (0, o)), (2, (0, e)), (3, (0, m)), (4, (0, t))]) (st' := [(0, 0)]) rfl ?_
              refine jzret hF hr (by omega) (by decide +kernel) ?_
              exact lMB0 ⟨hR_k, by exact ⟨⟨fun h => h.elim, fun h => by have w := h t (by omega) (by omega) ht.2.2; omega⟩, hcx, hfx⟩⟩
          · refine jblk hF [(.aload_n 0, 1)] (by decide +kernel) (pc' := 28) (lo' := [(0, (2, 22)), (1, (0, o)), (2, (0, e)), (3, (0, m)), (4, (0, t))]) (st' := [(2, 22)]) rfl ?_
            refine jget hF 5 2 2 2 rfl (by decide) (by decide) rfl wd_264 (by decide +kernel) (by exact hK.k22) ?_
            rw [HR.r22_2 hR_k]
            refine jblk hF [(.iload 4, 2), (.aload_n 0, 1), (.iload_n 1, 1), (.iload_n 2, 1), (.iload 4, 2)] (by decide +kernel) (pc' := 38) (lo' := [(0, (2, 22)), (1, (0, o)), (2, (0, e)), (3, (0, m)), (4, (0, t))]) (st' := [(0, t), (0, e), (0, o), (2, 22), (0, t), (2, 25)]) rfl ?_
            refine jcallV hF (c_X4_reachOf hG hK hR_k o e t (by assumption) (by omega)) MW_X4_reachOf 5 (by decide) (by exact hK.k22) wd_1308 wd_1310 wd_p42 (by decide +kernel) [(0, t), (2, 25)] rfl rfl (by decide) (Nat.le_of_ble_eq_true rfl) (by decide) (kMR (fun v_10 m_8 h_9 => ?_))
            obtain ⟨hR_m_8, h_9⟩ := h_9
            have hq5 := h_9
            have hpd2 : PDC mem m_8 := fun b j q1 q2 _ => (hq5.2 b j q2).trans (hf b j q1 q2)
            have hvl : v_10 = rcV (fun i => mem 24 (e * 40 + i)) (mem 23) o e (mem 22 6) t (mem 22 4) := hq5.1.trans (hpd.rcv o e t)
            have fm4 : m_8 22 4 = mem 22 4 := hpd2 22 4 (by omega) (by omega) (by omega)
            refine jiast hF (by decide +kernel) (by decide) (by exact hK.k25) (by omega) (by have := hK.l25; omega) ?_
            obtain ⟨hfx, hcx, hxt⟩ : (∀ b j : Int, b ≠ 25 → b ≠ 26 → (set2 m_8 25 t v_10) b j = mem b j) ∧ RCH mem (set2 m_8 25 t v_10) o e ∧ (set2 m_8 25 t v_10) 25 t = rcV (fun i => mem 24 (e * 40 + i)) (mem 23) o e (mem 22 6) t (mem 22 4) := by
              first
              | exact ⟨hf, hck, hct.resolve_left (by assumption)⟩
              | exact ⟨fun b j q1 q2 => by rw [s2_a q1]; exact (hq5.2 b j q2).trans (hf b j q1 q2), fun i q1 q2 => by by_cases w : i = t; (rw [w, s2_s]; exact Or.inr hvl); (rw [s2_k w, hq5.2 25 i (by decide)]; exact hck i q1 q2), by rw [s2_s]; exact hvl⟩
            have fx4 : (set2 m_8 25 t v_10) 22 4 = mem 22 4 := hfx 22 4 (by decide) (by decide)
            refine jblk hF [(.aload_n 0, 1)] (by decide +kernel) (pc' := 43) (lo' := [(0, (2, 22)), (1, (0, o)), (2, (0, e)), (3, (0, m)), (4, (0, t))]) (st' := [(2, 22)]) rfl ?_
            refine jget hF 5 2 2 2 rfl (by decide) (by decide) rfl wd_264 (by decide +kernel) (by exact hK.k22) ?_
            rw [HR.r22_2 (HR.s hR_m_8 (by omega))]
            refine jblk hF [(.iload 4, 2)] (by decide +kernel) (pc' := 48) (lo' := [(0, (2, 22)), (1, (0, o)), (2, (0, e)), (3, (0, m)), (4, (0, t))]) (st' := [(0, t), (2, 25)]) rfl ?_
            refine jiald hF (by decide +kernel) (by exact hK.k25) (by omega) (by have := hK.l25; omega) ?_
            rw [show (set2 m_8 25 t v_10) 25 t = v_10 from s2_s]
            refine jblk hF [(.aload_n 0, 1)] (by decide +kernel) (pc' := 50) (lo' := [(0, (2, 22)), (1, (0, o)), (2, (0, e)), (3, (0, m)), (4, (0, t))]) (st' := [(2, 22), (0, v_10)]) rfl ?_
            refine jget hF 5 4 0 4 rfl (by decide) (by decide) rfl wd_266 (by decide +kernel) (by exact hK.k22) ?_
            rw [show (set2 m_8 25 t v_10) 22 4 = m_8 22 4 from (s2_a (by decide))]
            refine jblk hF [(.iload 4, 2), (.iload_n 3, 1), (.iadd, 1)] (by decide +kernel) (pc' := 57) (lo' := [(0, (2, 22)), (1, (0, o)), (2, (0, e)), (3, (0, m)), (4, (0, t))]) (st' := [(0, t + m), (0, m_8 22 4), (0, v_10)]) rfl ?_
            refine jcallS hF (c_J9_min_7cf53 hG (m_8 22 4) (t + m) (by omega) (by omega)) MW_J9_min_7cf53 wd_1290 wd_483 (by decide +kernel) [(0, v_10)] rfl rfl (by decide) (Nat.le_of_ble_eq_true rfl) (by decide) (kV ?_)
            refine jicmp_ge hF (off := 5) 65 (by decide +kernel) (by decide) (by omega) (by omega) (fun h_11 => ?_) (fun h_11 => ?_)
            · refine jblk hF [(.iload 4, 2), (.iload_n 3, 1), (.iadd, 1), (.istore 4, 2)] (by decide +kernel) (pc' := 71) (lo' := [(4, (0, t + m)), (0, (2, 22)), (1, (0, o)), (2, (0, e)), (3, (0, m))]) (st' := []) rfl ?_
              refine jgoto hF (off := (-68)) 3 (by decide +kernel) (by decide) ?_
              refine jsub [1, 2, 3, 4, 0] rfl ?_
              refine ih_1 (t + m) (set2 m_8 25 t v_10) ?_ ?_ ?_ ?_ ?_ ?_
              · exact (HR.s hR_m_8 (by omega))
              · exact ⟨by omega, by omega, by rw [Int.add_emod_right]; exact ht.2.2⟩
              · exact hfx
              · exact hcx
              · (intro i q1 q2 q3 q4; by_cases w : i < t; exact hal i q1 w q3 q4; (have hit : i = t := (by
                have h1 := Int.mul_ediv_add_emod i m
                have h2 := Int.mul_ediv_add_emod t m
                rw [q4] at h1
                rw [ht.2.2] at h2
                have h3 : t / m ≤ i / m := Int.ediv_le_ediv (by omega) (by omega)
                have h4 : i / m < t / m + 1 := Int.lt_of_mul_lt_mul_left (a := m) (by rw [Int.mul_add, Int.mul_one]; omega) (by omega)
                have h5 : i / m = t / m := by omega
                rw [h5] at h1
                omega)); rw [hit]; omega)
              · omega
            · refine jblk hF [(.iconst 0, 1)] (by decide +kernel) (pc' := 64) (lo' := [(0, (2, 22)), (1, (0, o)), (2, (0, e)), (3, (0, m)), (4, (0, t))]) (st' := [(0, 0)]) rfl ?_
              refine jzret hF hr (by omega) (by decide +kernel) ?_
              exact lMB0 ⟨(HR.s hR_m_8 (by omega)), by exact ⟨⟨fun h => h.elim, fun h => by have w := h t (by omega) (by omega) ht.2.2; omega⟩, hcx, hfx⟩⟩
  refine jsub [1, 2, 3, 4, 0] rfl ?_
  refine L_2 _ 0 mem ?_ ?_ ?_ ?_ ?_ (Nat.lt_succ_self _)
  · exact hR
  · exact ⟨by omega, by omega, Int.zero_emod m⟩
  · (intro b j _ _; rfl)
  · exact hch
  · (intro i q1 q2; omega)
end
