section
section
variable {mem mm : Int → Int → Int} {f w n s p h a b o e m t i c : Int}
/-- a line's answer, the block's figures made by the plan's own -/
def bsG (mem : Int → Int → Int) (f w s o p e m h n : Int) : Prop := wL (nearBy (wL (numF (nearL mem f w s (p + e)) (fun _ => 0) o m n)) (10 ^ e.toNat) h) = wL (nearV (mem 36 f) (mem 37 f) (mem 38 f) (w + n * s) p h)
theorem rtN_iff : ∀ k : Nat, rtN mem f w s o p e m h k = 1 ↔ ∀ i : Int, 0 ≤ i → i < k → bsG mem f w s o p e m h i := by
  intro k
  induction k with
  | zero => exact ⟨fun _ i q1 q2 => by omega, fun _ => rfl⟩
  | succ k ih =>
    unfold rtN
    refine ⟨fun q => ?_, fun q => ?_⟩
    · by_cases u : rtN mem f w s o p e m h k = 1 ∧ wL (nearBy (wL (numF (nearL mem f w s (p + e)) (fun _ => 0) o m k)) (10 ^ e.toNat) h) = wL (nearV (mem 36 f) (mem 37 f) (mem 38 f) (w + k * s) p h)
      · intro i q1 q2
        by_cases v : i = k
        · rw [v]; exact u.2
        · exact (ih.1 u.1) i q1 (by omega)
      · rw [if_neg u] at q; exact absurd q (by decide)
    · exact if_pos ⟨ih.2 (fun i q1 q2 => q i q1 (by omega)), q k (by omega) (by omega)⟩
theorem oneR_iff (hP : PKD mm (mem 36 f) (mem 37 f) (mem 38 f) w n s p h) (ho : 0 ≤ o ∧ o ≤ 4) (he : 0 ≤ e ∧ e ≤ 6 - p) (hm : 1 ≤ m) (ht : 0 ≤ t ∧ t % m = 0) (hi : t ≤ i ∧ i < t + m ∧ i < n) (hn : n ≤ 40) : oneR (fun i => mm 24 (e * 40 + i)) (mm 23) o e h t i = 1 ↔ bsG mem f w s o p e m h i := by
  obtain ⟨-, -, -, h23, h24⟩ := hP
  have en : numF (fun j => mm 24 (e * 40 + (t + j))) (fun _ => 0) o 100 (i - t) = numF (nearL mem f w s (p + e)) (fun _ => 0) o m i := by
    rw [numF_eqs (nr := fun j => mm 24 (e * 40 + (t + j))) (nr' := nearL mem f w s (p + e)) (ad' := fun _ => 0) (s := 0) (s' := t) (m' := m) ho.1 (by decide) (by omega) (by decide) ht.2 (by omega) ht.1 ⟨by omega, by omega, by omega⟩ (fun j q1 q2 => ?_) (fun _ _ _ _ _ _ _ => rfl) ho.2, show i - t + (t - 0) = i by omega]
    show mm 24 (e * 40 + (t + j)) = _
    rw [h24 (t + j) e (by omega) (by omega) he.1 he.2, show j + (t - 0) = t + j by omega]
    rfl
  unfold oneR bsG
  rw [en, h23 i (by omega) (by omega)]
  exact ⟨fun q => by by_cases u : wL (nearBy (wL (numF (nearL mem f w s (p + e)) (fun _ => 0) o m i)) (10 ^ e.toNat) h) = wL (nearV (mem 36 f) (mem 37 f) (mem 38 f) (w + i * s) p h); exact u; (rw [if_neg u] at q; exact absurd q (by decide)), fun q => if_pos q⟩
theorem KAP_iff (hP : PKD mm (mem 36 f) (mem 37 f) (mem 38 f) w n s p h) (ho : 0 ≤ o ∧ o ≤ 4) (he : 0 ≤ e ∧ e ≤ 6 - p) (hm : 1 ≤ m) (hn : 0 ≤ n ∧ n ≤ 40) : KAP mm o e m ↔ rtN mem f w s o p e m h n.toNat = 1 := by
  rw [rtN_iff]
  have e4 := hP.1
  have e6 := hP.2.2.1
  unfold KAP
  rw [e4, e6]
  refine ⟨fun q i q1 q2 => ?_, fun q t q1 q2 q3 => ?_⟩
  · have hb := blk_st (m := m) (n := i) (by omega) q1
    have hq := q (i - i % m) hb.2.1 (by omega) hb.1
    have hr := rcN_bd (nr := fun i => mm 24 (e * 40 + i)) (rt := mm 23) (o := o) (e := e) (h := h) (s := i - i % m) (L := n) (n - (i - i % m)).toNat (i - i % m) (by omega) (by omega)
    have hlt : i < rcV (fun i => mm 24 (e * 40 + i)) (mm 23) o e h (i - i % m) n := by
      split at hq <;> omega
    exact (oneR_iff hP ho he hm ⟨hb.2.1, hb.1⟩ ⟨by omega, by omega, by omega⟩ hn.2).1 (hr.2.2.1 i (by omega) hlt)
  · have hr := rcN_bd (nr := fun i => mm 24 (e * 40 + i)) (rt := mm 23) (o := o) (e := e) (h := h) (s := t) (L := n) (n - t).toNat t (by omega) (by omega)
    obtain ⟨r, hr0⟩ : ∃ y : Int, y = rcV (fun i => mm 24 (e * 40 + i)) (mm 23) o e h t n := ⟨_, rfl⟩
    have hr1 : rcN (fun i => mm 24 (e * 40 + i)) (mm 23) o e h t n (n - t).toNat t = r := hr0.symm
    rw [hr1] at hr
    rw [← hr0]
    by_cases u : r < n ∧ r < t + m
    · exact absurd ((oneR_iff hP ho he hm ⟨q1, q3⟩ ⟨hr.1, u.2, u.1⟩ hn.2).2 (q r (by omega) (by omega))) (hr.2.2.2 u.1)
    · split <;> omega
theorem pvV_md (ho : 0 ≤ o) (hm : o + 2 ≤ m) : ∀ k : Nat, pvV k o m = k - mdN o m k := by
  intro k
  induction k with
  | zero => unfold pvV mdN; simp; omega
  | succ k ih =>
    have h1 := Int.mul_ediv_add_emod (k : Int) m
    have h2 := Int.emod_nonneg (k : Int) (by omega : m ≠ 0)
    have h3 := Int.emod_lt_of_pos (k : Int) (by omega : 0 < m)
    unfold mdN
    rw [show (((k + 1 : Nat)) : Int) = (k : Int) + 1 by omega]
    obtain ⟨a, ha⟩ : ∃ y : Int, y = (k : Int) / m := ⟨_, rfl⟩
    obtain ⟨r, hr⟩ : ∃ y : Int, y = (k : Int) % m := ⟨_, rfl⟩
    unfold pvV at ih ⊢
    rw [← ha, ← hr] at h1 ih
    rw [← hr] at h2 h3 ⊢
    by_cases c : r + 1 < m
    · obtain ⟨d1, d2⟩ := (Int.ediv_emod_unique (a := (k : Int) + 1) (b := m) (q := a) (r := r + 1) (by omega)).2 ⟨by omega, by omega, c⟩
      rw [d1, d2]
      by_cases u : r > o
      · rw [if_pos u]; split at ih <;> split <;> omega
      · rw [if_neg u]; split at ih <;> split <;> omega
    · have h5 : m * (a + 1) = m * a + m := by rw [Int.mul_add, Int.mul_one]
      have h6 : (a + 1) * (o + 1) = a * (o + 1) + (o + 1) := by rw [Int.add_mul, Int.one_mul]
      obtain ⟨d1, d2⟩ := (Int.ediv_emod_unique (a := (k : Int) + 1) (b := m) (q := a + 1) (r := 0) (by omega)).2 ⟨by omega, by omega, by omega⟩
      rw [d1, d2, h6, if_pos (by omega : r > o)]
      rw [if_neg (by omega)]
      by_cases u : o + 1 < r
      · rw [if_pos u] at ih; omega
      · rw [if_neg u] at ih; omega
theorem hrV_cost {ph : Int} (hph : ph = mem 35 89) (hp : 1 ≤ ph ∧ ph ≤ 100) (ho : 1 ≤ o ∧ o ≤ 4) (he : 0 ≤ e ∧ e ≤ 6) (hm : o + 2 ≤ m) (hn : 0 ≤ n ∧ n ≤ 40) : hrV ph n o e m = costV mem n o e m ∧ 0 ≤ costV mem n o e m ∧ costV mem n o e m < 1000000 := by
  have h1 := pvV_md (o := o) (m := m) (by omega) hm n.toNat
  rw [show ((n.toNat : Nat) : Int) = n by omega] at h1
  have h2 := mdN_bd o m n.toNat
  unfold hrV costV
  rw [h1, hph]
  rw [hph] at hp
  obtain ⟨d, hd⟩ : ∃ y : Int, y = mdN o m n.toNat := ⟨_, rfl⟩
  rw [← hd] at h2 ⊢
  have a1 : mem 35 89 * (n - d) ≤ 100 * (n - d) := Int.mul_le_mul_of_nonneg_right hp.2 (by omega)
  have a2 : 0 ≤ mem 35 89 * (n - d) := Int.mul_nonneg (by omega) (by omega)
  have a3 : o * d ≤ 4 * d := Int.mul_le_mul_of_nonneg_right ho.2 (by omega)
  have a4 : 0 ≤ o * d := Int.mul_nonneg (by omega) (by omega)
  have a5 : e * n ≤ 6 * n := Int.mul_le_mul_of_nonneg_right he.2 hn.1
  have a6 : 0 ≤ e * n := Int.mul_nonneg he.1 hn.1
  rw [show n - (n - d) = d by omega]
  exact ⟨rfl, by omega, by omega⟩
/-- the two ways to say that nothing is found yet -/
def BSR (S' S : BS) : Prop := (S'.1 = 1000000 ∧ S.1 = -1) ∨ (S' = S ∧ S.1 ≠ -1 ∧ S.1 < 1000000)
theorem BSR.step {K : Int → Int → Int → Prop} {C : Int → Int → Int → Int} {S S' : BS} (hB : BSR S' S) (hK : K o e m ↔ rtN mem f w s o p e m h n.toNat = 1) (hC : C o e m = costV mem n o e m ∧ 0 ≤ costV mem n o e m ∧ costV mem n o e m < 1000000) : BSR (bpS K C o e m S') (bsS mem f w n s p h o e m S) := by
  obtain ⟨c1, c2, c3⟩ := hC
  by_cases k : rtN mem f w s o p e m h n.toNat = 1
  · rcases hB with ⟨b1, b2⟩ | ⟨b1, b2, b3⟩
    · have x : bpS K C o e m S' = (costV mem n o e m, o, e, m) := by unfold bpS; rw [c1]; exact if_pos ⟨by omega, hK.2 k⟩
      have y : bsS mem f w n s p h o e m S = (costV mem n o e m, o, e, m) := by unfold bsS; exact (if_neg (fun u => u.1 b2)).trans (if_pos k)
      rw [x, y]
      exact Or.inr ⟨rfl, by show costV mem n o e m ≠ -1; omega, c3⟩
    · by_cases u : S.1 ≤ costV mem n o e m
      · have x : bpS K C o e m S' = S' := by unfold bpS; rw [c1]; exact if_neg (fun v => by rw [b1] at v; omega)
        have y : bsS mem f w n s p h o e m S = S := by unfold bsS; exact if_pos ⟨b2, u⟩
        rw [x, y]
        exact Or.inr ⟨b1, b2, b3⟩
      · have x : bpS K C o e m S' = (costV mem n o e m, o, e, m) := by unfold bpS; rw [c1]; exact if_pos ⟨by rw [b1]; omega, hK.2 k⟩
        have y : bsS mem f w n s p h o e m S = (costV mem n o e m, o, e, m) := by unfold bsS; exact (if_neg (fun v => u v.2)).trans (if_pos k)
        rw [x, y]
        exact Or.inr ⟨rfl, by show costV mem n o e m ≠ -1; omega, c3⟩
  · have x : bpS K C o e m S' = S' := by unfold bpS; exact if_neg (fun v => k (hK.1 v.2))
    have y : bsS mem f w n s p h o e m S = S := by
      unfold bsS
      by_cases u : S.1 ≠ -1 ∧ S.1 ≤ costV mem n o e m
      · exact if_pos u
      · exact (if_neg u).trans (if_neg k)
    rw [x, y]
    exact hB
theorem BSR.all {K : Int → Int → Int → Prop} {C : Int → Int → Int → Int} {S S' : BS} (hB : BSR S' S) (hp : 0 ≤ p ∧ p ≤ 6) (hK : ∀ o e m : Int, 1 ≤ o → o ≤ 4 → 0 ≤ e → e ≤ 6 - p → o + 2 ≤ m → ((K o e m ↔ rtN mem f w s o p e m h n.toNat = 1) ∧ C o e m = costV mem n o e m ∧ 0 ≤ costV mem n o e m ∧ costV mem n o e m < 1000000)) : BSR (bpO K C p 4 S') (bsO mem f w n s p h 4 S) := by
  have hM : ∀ (o e : Int), 1 ≤ o → o ≤ 4 → 0 ≤ e → e ≤ 6 - p → ∀ (k : Nat) (S S' : BS), BSR S' S → BSR (bpM K C o e k S') (bsM mem f w n s p h o e k S) := fun o e q1 q2 q3 q4 k => by
    induction k with
    | zero => intro S S' x; exact x
    | succ k ih =>
      intro S S' x
      have y := hK o e (o + 2 + k) q1 q2 q3 q4 (by omega)
      exact (ih S S' x).step y.1 y.2
  have hCx : ∀ o : Int, 1 ≤ o → o ≤ 4 → ∀ (k : Nat), (k : Int) ≤ 7 - p → ∀ S S' : BS, BSR S' S → BSR (bpC K C o k S') (bsC mem f w n s p h o k S) := fun o q1 q2 k => by
    induction k with
    | zero => intro _ S S' x; exact x
    | succ k ih => intro hk S S' x; exact hM o k q1 q2 (by omega) (by omega) _ _ _ (ih (by omega) S S' x)
  have hO : ∀ (k : Nat), k ≤ 4 → BSR (bpO K C p k S') (bsO mem f w n s p h k S) := fun k => by
    induction k with
    | zero => intro _; exact hB
    | succ k ih => intro hk; exact hCx (k + 1) (by omega) (by omega) _ (by omega) _ _ (ih (by omega))
  exact hO 4 (by decide)
/-- only the planner's cells have changed -/
def SCB (mem mm : Int → Int → Int) : Prop := ∀ a j : Int, ¬ (23 ≤ a ∧ a ≤ 26) → ¬ (a = 22 ∧ 4 ≤ j ∧ j ≤ 10) → mm a j = mem a j
theorem best_fin {m1 m2 : Int → Int → Int} {ph : Int} {S : BS} (hP : PKD m1 (mem 36 f) (mem 37 f) (mem 38 f) w n s p h) (hph : ph = mem 35 89) (hph2 : 1 ≤ ph ∧ ph ≤ 100) (hn : 0 ≤ n ∧ n ≤ 40) (hp : 0 ≤ p ∧ p ≤ 6) (hF : FOR m1 m2 ph S) : BSR S (bsO mem f w n s p h 4 (-1, 0, 0, 0)) := by
  rw [hF.2.2, hP.2.1, hP.1]
  refine BSR.all (Or.inl ⟨rfl, rfl⟩) hp (fun o e m q1 q2 q3 q4 q5 => ⟨KAP_iff hP ⟨by omega, q2⟩ ⟨q3, q4⟩ (by omega) hn, hrV_cost hph hph2 ⟨q1, q2⟩ ⟨q3, by omega⟩ q5 hn⟩)
theorem best_v {m2 : Int → Int → Int} {S : BS} (hB : BSR S (bsO mem f w n s p h 4 (-1, 0, 0, 0))) (hJ : BPJ m2 S) (hS : S.1 ≠ 1000000) (k : Int) : bestV mem f w n s p h k = if k = 0 then m2 22 7 else if k = 1 then m2 22 8 else if k = 2 then m2 22 9 else m2 22 10 := by
  rcases hB with ⟨b1, b2⟩ | ⟨b1, b2, b3⟩
  · exact absurd b1 hS
  · rw [hJ.1, hJ.2.1, hJ.2.2.1, hJ.2.2.2]
    unfold bestV
    rw [← b1] at b2 ⊢
    exact if_neg b2
theorem best_no {S : BS} (hB : BSR S (bsO mem f w n s p h 4 (-1, 0, 0, 0))) (hS : S.1 = 1000000) (k : Int) : bestV mem f w n s p h k = -1 := by
  rcases hB with ⟨b1, b2⟩ | ⟨b1, b2, b3⟩
  · unfold bestV; exact if_pos b2
  · rw [← b1] at b3; omega
end
set_option maxHeartbeats 4000000 in
set_option maxRecDepth 100000 in
theorem c_X11_best {l : Launch} {g : GP} (hG : GH g) {kd : Int → Nat} {ln : Int → Int} {mem : Int → Int → Int} {sz : Nat} (hK : HK kd ln) (hR : HR mem) (f w n s p h k : Int) (tg : Int → Int) (hI : INV kd ln mem sz tg) (hTN : TNS g) (h_f : InI f) (h_w : InI w) (h_n : InI n) (h_s : InI s) (h_p : InI p) (h_h : InI h) (h_k : InI k) : MT l g yX11_best cX11_best 8 (some .int) 6 0 0 [(2, 3), (0, f), (0, w), (0, n), (0, s), (0, p), (0, h), (0, k)] kd ln mem sz (pMR 0 (fun v mem' => HR mem' ∧ ((bestC mem f w n s p h k → v = bestV mem f w n s p h k) ∧ (¬ bestC mem f w n s p h k → v = -1) ∧ SCB mem mem')) kd ln sz) := by
  refine MT_of hG (by decide +kernel) (Nat.le_of_ble_eq_true rfl) (fun z hF hr hn => ?_)
  obtain ⟨⟨q0, q1, q2, q3, q4, q5⟩, u0, u2, u46, u89, usz⟩ := hI.num
  have n27 : 0 ≤ mem 35 6 ∧ mem 35 6 ≤ 10 := ⟨hI.fns.1, hI.fns.2.1⟩
  obtain ⟨e27, k27, r27, b27, c27⟩ := hI.g27.ls
  refine jblk hF [(.iload_n 1, 1), (.iconst 0, 1), (.aload_n 0, 1)] (by decide +kernel) (pc' := 3) (lo' := [(0, (2, 3)), (1, (0, f)), (2, (0, w)), (3, (0, n)), (4, (0, s)), (5, (0, p)), (6, (0, h)), (7, (0, k))]) (st' := [(2, 3), (0, 0), (0, f)]) rfl ?_
  refine jget hF 12 12 2 12 rfl (by decide) (by decide) rfl wd_338 (by decide +kernel) (by exact hK.k3) ?_
  rw [HR.r3_12 hR]
  refine jcallV hF (c_Jx4a65c_size_8abf5 hG 27 (by first | assumption | omega)) MW_Jx4a65c_size_8abf5 0 (by decide) (by exact hK.k27) wd_410 wd_411 wd_412 (by decide +kernel) [(0, 0), (0, f)] rfl rfl (by decide) (Nat.le_of_ble_eq_true rfl) (by decide) (kV ?_)
  rw [e27]
  refine jblk hF [(.iconst 1, 1), (.isub, 1)] (by decide +kernel) (pc' := 11) (lo' := [(0, (2, 3)), (1, (0, f)), (2, (0, w)), (3, (0, n)), (4, (0, s)), (5, (0, p)), (6, (0, h)), (7, (0, k))]) (st' := [(0, (mem 35 6) - 1), (0, 0), (0, f)]) rfl ?_
  refine jcallS hF (c_X11_within hG f 0 ((mem 35 6) - 1) (by omega) (by decide) (by omega)) MW_X11_within wd_391 wd_392 (by decide +kernel) [] rfl rfl (by decide) (Nat.le_of_ble_eq_true rfl) (by decide) (kB (fun h_1 => ?_) (fun h_1 => ?_))
  · refine jif_eq hF (off := 79) 93 (by decide +kernel) (by decide) (by decide) (fun h => absurd h (by decide)) (fun _ => ?_)
    refine jblk hF [(.iload_n 2, 1), (.iconst 1, 1), (.sipush 9999, 3)] (by decide +kernel) (pc' := 22) (lo' := [(0, (2, 3)), (1, (0, f)), (2, (0, w)), (3, (0, n)), (4, (0, s)), (5, (0, p)), (6, (0, h)), (7, (0, k))]) (st' := [(0, 9999), (0, 1), (0, w)]) rfl ?_
    refine jcallS hF (c_X11_within hG w 1 9999 (by omega) (by decide) (by decide)) MW_X11_within wd_391 wd_392 (by decide +kernel) [] rfl rfl (by decide) (Nat.le_of_ble_eq_true rfl) (by decide) (kB (fun h_3 => ?_) (fun h_3 => ?_))
    · refine jif_eq hF (off := 68) 93 (by decide +kernel) (by decide) (by decide) (fun h => absurd h (by decide)) (fun _ => ?_)
      refine jblk hF [(.iload_n 3, 1), (.iconst 2, 1), (.bipush 40, 2)] (by decide +kernel) (pc' := 32) (lo' := [(0, (2, 3)), (1, (0, f)), (2, (0, w)), (3, (0, n)), (4, (0, s)), (5, (0, p)), (6, (0, h)), (7, (0, k))]) (st' := [(0, 40), (0, 2), (0, n)]) rfl ?_
      refine jcallS hF (c_X11_within hG n 2 40 (by omega) (by decide) (by decide)) MW_X11_within wd_391 wd_392 (by decide +kernel) [] rfl rfl (by decide) (Nat.le_of_ble_eq_true rfl) (by decide) (kB (fun h_5 => ?_) (fun h_5 => ?_))
      · refine jif_eq hF (off := 58) 93 (by decide +kernel) (by decide) (by decide) (fun h => absurd h (by decide)) (fun _ => ?_)
        refine jblk hF [(.iload 4, 2), (.iconst 1, 1), (.bipush 50, 2)] (by decide +kernel) (pc' := 43) (lo' := [(0, (2, 3)), (1, (0, f)), (2, (0, w)), (3, (0, n)), (4, (0, s)), (5, (0, p)), (6, (0, h)), (7, (0, k))]) (st' := [(0, 50), (0, 1), (0, s)]) rfl ?_
        refine jcallS hF (c_X11_within hG s 1 50 (by omega) (by decide) (by decide)) MW_X11_within wd_391 wd_392 (by decide +kernel) [] rfl rfl (by decide) (Nat.le_of_ble_eq_true rfl) (by decide) (kB (fun h_7 => ?_) (fun h_7 => ?_))
        · refine jif_eq hF (off := 47) 93 (by decide +kernel) (by decide) (by decide) (fun h => absurd h (by decide)) (fun _ => ?_)
          refine jblk hF [(.iload 5, 2), (.iconst 0, 1), (.iconst 5, 1)] (by decide +kernel) (pc' := 53) (lo' := [(0, (2, 3)), (1, (0, f)), (2, (0, w)), (3, (0, n)), (4, (0, s)), (5, (0, p)), (6, (0, h)), (7, (0, k))]) (st' := [(0, 5), (0, 0), (0, p)]) rfl ?_
          refine jcallS hF (c_X11_within hG p 0 5 (by omega) (by decide) (by decide)) MW_X11_within wd_391 wd_392 (by decide +kernel) [] rfl rfl (by decide) (Nat.le_of_ble_eq_true rfl) (by decide) (kB (fun h_9 => ?_) (fun h_9 => ?_))
          · refine jif_eq hF (off := 37) 93 (by decide +kernel) (by decide) (by decide) (fun h => absurd h (by decide)) (fun _ => ?_)
            refine jblk hF [(.iload 6, 2), (.iconst 0, 1), (.iconst 2, 1)] (by decide +kernel) (pc' := 63) (lo' := [(0, (2, 3)), (1, (0, f)), (2, (0, w)), (3, (0, n)), (4, (0, s)), (5, (0, p)), (6, (0, h)), (7, (0, k))]) (st' := [(0, 2), (0, 0), (0, h)]) rfl ?_
            refine jcallS hF (c_X11_within hG h 0 2 (by omega) (by decide) (by decide)) MW_X11_within wd_391 wd_392 (by decide +kernel) [] rfl rfl (by decide) (Nat.le_of_ble_eq_true rfl) (by decide) (kB (fun h_11 => ?_) (fun h_11 => ?_))
            · refine jif_eq hF (off := 27) 93 (by decide +kernel) (by decide) (by decide) (fun h => absurd h (by decide)) (fun _ => ?_)
              refine jblk hF [(.iload 7, 2), (.iconst 0, 1), (.iconst 3, 1)] (by decide +kernel) (pc' := 73) (lo' := [(0, (2, 3)), (1, (0, f)), (2, (0, w)), (3, (0, n)), (4, (0, s)), (5, (0, p)), (6, (0, h)), (7, (0, k))]) (st' := [(0, 3), (0, 0), (0, k)]) rfl ?_
              refine jcallS hF (c_X11_within hG k 0 3 (by omega) (by decide) (by decide)) MW_X11_within wd_391 wd_392 (by decide +kernel) [] rfl rfl (by decide) (Nat.le_of_ble_eq_true rfl) (by decide) (kB (fun h_13 => ?_) (fun h_13 => ?_))
              · refine jif_eq hF (off := 17) 93 (by decide +kernel) (by decide) (by decide) (fun h => absurd h (by decide)) (fun _ => ?_)
                have hb1 : 0 ≤ (n - 1) * s := Int.mul_nonneg (by omega) (by omega)
                have hb2 : (n - 1) * s ≤ 39 * 50 := Int.mul_le_mul (by omega) (by omega) (by omega) (by omega)
                refine jblk hF [(.iload_n 2, 1), (.iload_n 3, 1), (.iconst 1, 1), (.isub, 1), (.iload 4, 2), (.imul, 1), (.iadd, 1), (.sipush 9999, 3)] (by decide +kernel) (pc' := 90) (lo' := [(0, (2, 3)), (1, (0, f)), (2, (0, w)), (3, (0, n)), (4, (0, s)), (5, (0, p)), (6, (0, h)), (7, (0, k))]) (st' := [(0, 9999), (0, w + ((n - 1) * s))]) rfl ?_
                refine jicmp_le hF (off := 5) 95 (by decide +kernel) (by decide) (by omega) (by decide) (fun h_15 => ?_) (fun h_15 => ?_)
                · have hcc : bestC mem f w n s p h k := ⟨by omega, by omega, by omega, by omega, by omega, by omega, by omega, by omega⟩
                  obtain ⟨u1c, u2c, u3c, u4c, u5c⟩ := hI.cur (f := f) (by omega) (by omega)
                  obtain ⟨cv, hcv⟩ : ∃ y : Int, y = mem (mem 27 1) f := ⟨_, rfl⟩
                  rw [← hcv] at u1c u2c u3c u4c
                  refine jblk hF [(.aload_n 0, 1)] (by decide +kernel) (pc' := 96) (lo' := [(0, (2, 3)), (1, (0, f)), (2, (0, w)), (3, (0, n)), (4, (0, s)), (5, (0, p)), (6, (0, h)), (7, (0, k))]) (st' := [(2, 3)]) rfl ?_
                  refine jget hF 12 11 2 11 rfl (by decide) (by decide) rfl wd_337 (by decide +kernel) (by exact hK.k3) ?_
                  rw [HR.r3_11 hR]
                  refine jblk hF [(.aload_n 0, 1)] (by decide +kernel) (pc' := 100) (lo' := [(0, (2, 3)), (1, (0, f)), (2, (0, w)), (3, (0, n)), (4, (0, s)), (5, (0, p)), (6, (0, h)), (7, (0, k))]) (st' := [(2, 3), (2, 22)]) rfl ?_
                  refine jget hF 12 12 2 12 rfl (by decide) (by decide) rfl wd_338 (by decide +kernel) (by exact hK.k3) ?_
                  rw [HR.r3_12 hR]
                  refine jblk hF [(.iload_n 1, 1)] (by decide +kernel) (pc' := 104) (lo' := [(0, (2, 3)), (1, (0, f)), (2, (0, w)), (3, (0, n)), (4, (0, s)), (5, (0, p)), (6, (0, h)), (7, (0, k))]) (st' := [(0, f), (2, 27), (2, 22)]) rfl ?_
                  refine jcallV hF (c_Jx4a65c_get_915e3 hG 27 f (by first | assumption | omega) (by first | assumption | omega) (by omega)) MW_Jx4a65c_get_915e3 0 (by decide) (by exact hK.k27) wd_498 wd_499 wd_500 (by decide +kernel) [(2, 22)] rfl rfl (by decide) (Nat.le_of_ble_eq_true rfl) (by decide) (kV ?_)
                  rw [← hcv]
                  refine jcast hF 1 (by decide) wd_414 (by decide +kernel) (by first | assumption | omega) ?_
                  refine jblk hF [(.iload_n 2, 1), (.iload_n 3, 1), (.iload 4, 2), (.iload 5, 2), (.iload 6, 2)] (by decide +kernel) (pc' := 118) (lo' := [(0, (2, 3)), (1, (0, f)), (2, (0, w)), (3, (0, n)), (4, (0, s)), (5, (0, p)), (6, (0, h)), (7, (0, k))]) (st' := [(0, h), (0, p), (0, s), (0, n), (0, w), (2, cv), (2, 22)]) rfl ?_
                  refine jcallV hF (c_X4_reckon hG hK hR cv w n s p h (by assumption) (by first | assumption | omega) (by omega) (by (rw [u4c.1, u4c.2.1, u4c.2.2]; omega)) (by omega)) MW_X4_reckon 5 (by decide) (by exact hK.k22) wd_1286 wd_1287 wd_1288 (by decide +kernel) [] rfl rfl (by decide) (Nat.le_of_ble_eq_true rfl) (by decide) (kMV (fun m_16 h_17 => ?_))
                  obtain ⟨hR_m_16, h_17⟩ := h_17
                  obtain ⟨hfr, hpk⟩ := h_17
                  rw [u4c.1, u4c.2.1, u4c.2.2] at hpk
                  have e33 : m_16 3 3 = mem 35 89 := (hfr 3 3 (by decide) (by decide) (by decide)).trans q3
                  have e224 := hpk.1
                  have e225 := hpk.2.1
                  have e226 := hpk.2.2.1
                  refine jblk hF [(.aload_n 0, 1)] (by decide +kernel) (pc' := 122) (lo' := [(0, (2, 3)), (1, (0, f)), (2, (0, w)), (3, (0, n)), (4, (0, s)), (5, (0, p)), (6, (0, h)), (7, (0, k))]) (st' := [(2, 3)]) rfl ?_
                  refine jget hF 12 11 2 11 rfl (by decide) (by decide) rfl wd_337 (by decide +kernel) (by exact hK.k3) ?_
                  rw [HR.r3_11 hR_m_16]
                  refine jblk hF [(.aload_n 0, 1)] (by decide +kernel) (pc' := 126) (lo' := [(0, (2, 3)), (1, (0, f)), (2, (0, w)), (3, (0, n)), (4, (0, s)), (5, (0, p)), (6, (0, h)), (7, (0, k))]) (st' := [(2, 3), (2, 22)]) rfl ?_
                  refine jget hF 12 3 0 3 rfl (by decide) (by decide) rfl wd_329 (by decide +kernel) (by exact hK.k3) ?_
                  refine jcallV hF (c_X4_findsOne hG hK hR_m_16 (m_16 3 3) (by assumption) (by omega)) MW_X4_findsOne 5 (by decide) (by exact hK.k22) wd_1294 wd_1295 wd_1296 (by decide +kernel) [] rfl rfl (by decide) (Nat.le_of_ble_eq_true rfl) (by decide) (kMB (fun m_18 h_19 => ?_) (fun m_18 h_19 => ?_))
                  · obtain ⟨hR_m_18, h_19⟩ := h_19
                    obtain ⟨S, hcS, hFO⟩ := h_19
                    have hbr := best_fin hpk e33 (by omega) (by omega) (by omega) hFO
                    have hsb : SCB mem m_18 := fun a j q1 q2 => (hFO.1 a j (by omega) (by omega) (by omega)).trans (hfr a j (by omega) (by omega) (by omega))
                    have hbj := hFO.2.1
                    refine jif_ne hF (off := 5) 137 (by decide +kernel) (by decide) (by decide) (fun _ => ?_) (fun h => absurd h (by decide))
                    refine jblk hF [(.iload 7, 2)] (by decide +kernel) (pc' := 139) (lo' := [(0, (2, 3)), (1, (0, f)), (2, (0, w)), (3, (0, n)), (4, (0, s)), (5, (0, p)), (6, (0, h)), (7, (0, k))]) (st' := [(0, k)]) rfl ?_
                    by_cases h_21 : k = 0
                    · refine jtabIn hF (dflt := 49) (lo' := 0) (hi := 2) (offs := #[25, 33, 41]) (len := 25) 0 25 164 (by decide +kernel) h_21 (by decide) (by decide) (by decide) rfl (by decide) ?_
                      refine jblk hF [(.aload_n 0, 1)] (by decide +kernel) (pc' := 165) (lo' := [(0, (2, 3)), (1, (0, f)), (2, (0, w)), (3, (0, n)), (4, (0, s)), (5, (0, p)), (6, (0, h)), (7, (0, k))]) (st' := [(2, 3)]) rfl ?_
                      refine jget hF 12 11 2 11 rfl (by decide) (by decide) rfl wd_337 (by decide +kernel) (by exact hK.k3) ?_
                      rw [HR.r3_11 hR_m_18]
                      refine jget hF 5 7 0 7 rfl (by decide) (by decide) rfl wd_270 (by decide +kernel) (by exact hK.k22) ?_
                      refine jiret hF hr (by decide +kernel) ?_
                      exact lMR ⟨hR_m_18, by exact ⟨fun _ => by rw [best_v hbr hbj (hcS.1 trivial) k]; first | exact (if_pos (by omega)).symm | exact ((if_neg (by omega)).trans (if_pos (by omega))).symm | exact ((if_neg (by omega)).trans ((if_neg (by omega)).trans (if_pos (by omega)))).symm | exact ((if_neg (by omega)).trans ((if_neg (by omega)).trans (if_neg (by omega)))).symm, fun u => absurd hcc u, hsb⟩⟩
                    by_cases h_22 : k = 1
                    · refine jtabIn hF (dflt := 49) (lo' := 0) (hi := 2) (offs := #[25, 33, 41]) (len := 25) 1 33 172 (by decide +kernel) h_22 (by decide) (by decide) (by decide) rfl (by decide) ?_
                      refine jblk hF [(.aload_n 0, 1)] (by decide +kernel) (pc' := 173) (lo' := [(0, (2, 3)), (1, (0, f)), (2, (0, w)), (3, (0, n)), (4, (0, s)), (5, (0, p)), (6, (0, h)), (7, (0, k))]) (st' := [(2, 3)]) rfl ?_
                      refine jget hF 12 11 2 11 rfl (by decide) (by decide) rfl wd_337 (by decide +kernel) (by exact hK.k3) ?_
                      rw [HR.r3_11 hR_m_18]
                      refine jget hF 5 8 0 8 rfl (by decide) (by decide) rfl wd_272 (by decide +kernel) (by exact hK.k22) ?_
                      refine jiret hF hr (by decide +kernel) ?_
                      exact lMR ⟨hR_m_18, by exact ⟨fun _ => by rw [best_v hbr hbj (hcS.1 trivial) k]; first | exact (if_pos (by omega)).symm | exact ((if_neg (by omega)).trans (if_pos (by omega))).symm | exact ((if_neg (by omega)).trans ((if_neg (by omega)).trans (if_pos (by omega)))).symm | exact ((if_neg (by omega)).trans ((if_neg (by omega)).trans (if_neg (by omega)))).symm, fun u => absurd hcc u, hsb⟩⟩
                    by_cases h_23 : k = 2
                    · refine jtabIn hF (dflt := 49) (lo' := 0) (hi := 2) (offs := #[25, 33, 41]) (len := 25) 2 41 180 (by decide +kernel) h_23 (by decide) (by decide) (by decide) rfl (by decide) ?_
                      refine jblk hF [(.aload_n 0, 1)] (by decide +kernel) (pc' := 181) (lo' := [(0, (2, 3)), (1, (0, f)), (2, (0, w)), (3, (0, n)), (4, (0, s)), (5, (0, p)), (6, (0, h)), (7, (0, k))]) (st' := [(2, 3)]) rfl ?_
                      refine jget hF 12 11 2 11 rfl (by decide) (by decide) rfl wd_337 (by decide +kernel) (by exact hK.k3) ?_
                      rw [HR.r3_11 hR_m_18]
                      refine jget hF 5 9 0 9 rfl (by decide) (by decide) rfl wd_274 (by decide +kernel) (by exact hK.k22) ?_
                      refine jiret hF hr (by decide +kernel) ?_
                      exact lMR ⟨hR_m_18, by exact ⟨fun _ => by rw [best_v hbr hbj (hcS.1 trivial) k]; first | exact (if_pos (by omega)).symm | exact ((if_neg (by omega)).trans (if_pos (by omega))).symm | exact ((if_neg (by omega)).trans ((if_neg (by omega)).trans (if_pos (by omega)))).symm | exact ((if_neg (by omega)).trans ((if_neg (by omega)).trans (if_neg (by omega)))).symm, fun u => absurd hcc u, hsb⟩⟩
                    refine jtabOut hF (dflt := 49) (lo' := 0) (hi := 2) (offs := #[25, 33, 41]) (len := 25) 188 (by decide +kernel) (by omega) (by omega) (by decide) ?_
                    refine jblk hF [(.aload_n 0, 1)] (by decide +kernel) (pc' := 189) (lo' := [(0, (2, 3)), (1, (0, f)), (2, (0, w)), (3, (0, n)), (4, (0, s)), (5, (0, p)), (6, (0, h)), (7, (0, k))]) (st' := [(2, 3)]) rfl ?_
                    refine jget hF 12 11 2 11 rfl (by decide) (by decide) rfl wd_337 (by decide +kernel) (by exact hK.k3) ?_
                    rw [HR.r3_11 hR_m_18]
                    refine jget hF 5 10 0 10 rfl (by decide) (by decide) rfl wd_276 (by decide +kernel) (by exact hK.k22) ?_
                    refine jiret hF hr (by decide +kernel) ?_
                    exact lMR ⟨hR_m_18, by exact ⟨fun _ => by rw [best_v hbr hbj (hcS.1 trivial) k]; first | exact (if_pos (by omega)).symm | exact ((if_neg (by omega)).trans (if_pos (by omega))).symm | exact ((if_neg (by omega)).trans ((if_neg (by omega)).trans (if_pos (by omega)))).symm | exact ((if_neg (by omega)).trans ((if_neg (by omega)).trans (if_neg (by omega)))).symm, fun u => absurd hcc u, hsb⟩⟩
                  · obtain ⟨hR_m_18, h_19⟩ := h_19
                    obtain ⟨S, hcS, hFO⟩ := h_19
                    have hbr := best_fin hpk e33 (by omega) (by omega) (by omega) hFO
                    have hsb : SCB mem m_18 := fun a j q1 q2 => (hFO.1 a j (by omega) (by omega) (by omega)).trans (hfr a j (by omega) (by omega) (by omega))
                    have hbj := hFO.2.1
                    refine jif_ne hF (off := 5) 137 (by decide +kernel) (by decide) (by decide) (fun h => absurd h (by decide)) (fun _ => ?_)
                    refine jblk hF [(.iconst (-1), 1)] (by decide +kernel) (pc' := 136) (lo' := [(0, (2, 3)), (1, (0, f)), (2, (0, w)), (3, (0, n)), (4, (0, s)), (5, (0, p)), (6, (0, h)), (7, (0, k))]) (st' := [(0, (-1))]) rfl ?_
                    refine jiret hF hr (by decide +kernel) ?_
                    exact lMR ⟨hR_m_18, by exact ⟨fun _ => (best_no hbr (by by_cases u : S.1 = 1000000; exact u; exact absurd (hcS.2 u) id) k).symm, fun u => absurd hcc u, hsb⟩⟩
                · have hng : ¬ bestC mem f w n s p h k := fun u => by omega
                  refine jblk hF [(.iconst (-1), 1)] (by decide +kernel) (pc' := 94) (lo' := [(0, (2, 3)), (1, (0, f)), (2, (0, w)), (3, (0, n)), (4, (0, s)), (5, (0, p)), (6, (0, h)), (7, (0, k))]) (st' := [(0, (-1))]) rfl ?_
                  refine jiret hF hr (by decide +kernel) ?_
                  exact lMR ⟨hR, by exact ⟨fun u => absurd u hng, fun _ => rfl, fun _ _ _ _ => rfl⟩⟩
              · refine jif_eq hF (off := 17) 93 (by decide +kernel) (by decide) (by decide) (fun _ => ?_) (fun h => absurd h (by decide))
                have hng : ¬ bestC mem f w n s p h k := fun u => by omega
                refine jblk hF [(.iconst (-1), 1)] (by decide +kernel) (pc' := 94) (lo' := [(0, (2, 3)), (1, (0, f)), (2, (0, w)), (3, (0, n)), (4, (0, s)), (5, (0, p)), (6, (0, h)), (7, (0, k))]) (st' := [(0, (-1))]) rfl ?_
                refine jiret hF hr (by decide +kernel) ?_
                exact lMR ⟨hR, by exact ⟨fun u => absurd u hng, fun _ => rfl, fun _ _ _ _ => rfl⟩⟩
            · refine jif_eq hF (off := 27) 93 (by decide +kernel) (by decide) (by decide) (fun _ => ?_) (fun h => absurd h (by decide))
              have hng : ¬ bestC mem f w n s p h k := fun u => by omega
              refine jblk hF [(.iconst (-1), 1)] (by decide +kernel) (pc' := 94) (lo' := [(0, (2, 3)), (1, (0, f)), (2, (0, w)), (3, (0, n)), (4, (0, s)), (5, (0, p)), (6, (0, h)), (7, (0, k))]) (st' := [(0, (-1))]) rfl ?_
              refine jiret hF hr (by decide +kernel) ?_
              exact lMR ⟨hR, by exact ⟨fun u => absurd u hng, fun _ => rfl, fun _ _ _ _ => rfl⟩⟩
          · refine jif_eq hF (off := 37) 93 (by decide +kernel) (by decide) (by decide) (fun _ => ?_) (fun h => absurd h (by decide))
            have hng : ¬ bestC mem f w n s p h k := fun u => by omega
            refine jblk hF [(.iconst (-1), 1)] (by decide +kernel) (pc' := 94) (lo' := [(0, (2, 3)), (1, (0, f)), (2, (0, w)), (3, (0, n)), (4, (0, s)), (5, (0, p)), (6, (0, h)), (7, (0, k))]) (st' := [(0, (-1))]) rfl ?_
            refine jiret hF hr (by decide +kernel) ?_
            exact lMR ⟨hR, by exact ⟨fun u => absurd u hng, fun _ => rfl, fun _ _ _ _ => rfl⟩⟩
        · refine jif_eq hF (off := 47) 93 (by decide +kernel) (by decide) (by decide) (fun _ => ?_) (fun h => absurd h (by decide))
          have hng : ¬ bestC mem f w n s p h k := fun u => by omega
          refine jblk hF [(.iconst (-1), 1)] (by decide +kernel) (pc' := 94) (lo' := [(0, (2, 3)), (1, (0, f)), (2, (0, w)), (3, (0, n)), (4, (0, s)), (5, (0, p)), (6, (0, h)), (7, (0, k))]) (st' := [(0, (-1))]) rfl ?_
          refine jiret hF hr (by decide +kernel) ?_
          exact lMR ⟨hR, by exact ⟨fun u => absurd u hng, fun _ => rfl, fun _ _ _ _ => rfl⟩⟩
      · refine jif_eq hF (off := 58) 93 (by decide +kernel) (by decide) (by decide) (fun _ => ?_) (fun h => absurd h (by decide))
        have hng : ¬ bestC mem f w n s p h k := fun u => by omega
        refine jblk hF [(.iconst (-1), 1)] (by decide +kernel) (pc' := 94) (lo' := [(0, (2, 3)), (1, (0, f)), (2, (0, w)), (3, (0, n)), (4, (0, s)), (5, (0, p)), (6, (0, h)), (7, (0, k))]) (st' := [(0, (-1))]) rfl ?_
        refine jiret hF hr (by decide +kernel) ?_
        exact lMR ⟨hR, by exact ⟨fun u => absurd u hng, fun _ => rfl, fun _ _ _ _ => rfl⟩⟩
    · refine jif_eq hF (off := 68) 93 (by decide +kernel) (by decide) (by decide) (fun _ => ?_) (fun h => absurd h (by decide))
      have hng : ¬ bestC mem f w n s p h k := fun u => by omega
      refine jblk hF [(.iconst (-1), 1)] (by decide +kernel) (pc' := 94) (lo' := [(0, (2, 3)), (1, (0, f)), (2, (0, w)), (3, (0, n)), (4, (0, s)), (5, (0, p)), (6, (0, h)), (7, (0, k))]) (st' := [(0, (-1))]) rfl ?_
      refine jiret hF hr (by decide +kernel) ?_
      exact lMR ⟨hR, by exact ⟨fun u => absurd u hng, fun _ => rfl, fun _ _ _ _ => rfl⟩⟩
  · refine jif_eq hF (off := 79) 93 (by decide +kernel) (by decide) (by decide) (fun _ => ?_) (fun h => absurd h (by decide))
    have hng : ¬ bestC mem f w n s p h k := fun u => by omega
    refine jblk hF [(.iconst (-1), 1)] (by decide +kernel) (pc' := 94) (lo' := [(0, (2, 3)), (1, (0, f)), (2, (0, w)), (3, (0, n)), (4, (0, s)), (5, (0, p)), (6, (0, h)), (7, (0, k))]) (st' := [(0, (-1))]) rfl ?_
    refine jiret hF hr (by decide +kernel) ?_
    exact lMR ⟨hR, by exact ⟨fun u => absurd u hng, fun _ => rfl, fun _ _ _ _ => rfl⟩⟩
end
