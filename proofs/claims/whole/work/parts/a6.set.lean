section
section
variable {kd kd' : Int → Nat} {ln ln' : Int → Int} {mem m m1 mA mE mm : Int → Int → Int} {sz sz' : Nat} {tg : Int → Int} {p v r : Int}
/-- a page's empty plate -/
def SETQ (kd' : Int → Nat) (ln' : Int → Int) (m mA mE : Int → Int → Int) (sz sz' : Nat) (v : Int) : Prop :=
  (kd' (mE v 17) = 21 ∧ ln' (mE v 17) = 40 ∧ 101 ≤ mE v 17 ∧ mE v 17 < sz') ∧ (∀ j : Int, 0 ≤ j → j < 40 → mE (m v 18) j = 0) ∧ (∀ b j : Int, ¬ (b = v ∧ j = 17) → b ≠ m v 18 → b ≠ mE v 17 → mE b j = mA b j) ∧ ((mE v 17 = m v 17 ∧ 0 ≤ m v 17) ∨ mE v 17 = sz) ∧ ∀ j : Int, 0 ≤ j → j < 40 → -9000000000000000000 ≤ mE (mE v 17) j ∧ mE (mE v 17) j ≤ 9000000000000000000
theorem setE (hse : (0 ≤ mA v 17 → sz' = sz ∧ mE = fillM mA (mA v 18) 40 0) ∧ (mA v 17 < 0 → sz' = sz + 1 ∧ mE v 17 = sz ∧ kd' sz = 21 ∧ ln' sz = 40 ∧ (∀ j : Int, 0 ≤ j → j < 40 → mE (mA v 18) j = 0) ∧ (∀ j : Int, mE sz j = 0) ∧ ∀ b j : Int, ¬ (b = v ∧ j = 17) → b ≠ mA v 18 → b ≠ sz → mE b j = mA b j)) (hA : ∀ b j : Int, ¬ (b = 3 ∧ j = 4) → mA b j = m b j) (hP : PAGV kd ln m sz tg p v) (hE : EXT kd ln sz kd' ln' sz') (hs : 101 ≤ sz) : SETQ kd' ln' m mA mE sz sz' v := by
  have hva := hP.at
  have h18 := hP.row 18 (by decide)
  have e17 : mA v 17 = m v 17 := hA v 17 (by omega)
  have e18 : mA v 18 = m v 18 := hA v 18 (by omega)
  rw [e17, e18] at hse
  have hvn : v ≠ m v 18 := fun u => by have y := hva.2.2.2.1; have z := h18.2.2.2.2; rw [← u] at z; omega
  rcases hP.2.1.2.2.2.1 with ⟨w1, w2⟩ | ⟨⟨w1, w2, w3, w4, w5⟩, -, -, w6⟩
  · obtain ⟨t1, t2, t3, t4, t5, t6, t7⟩ := hse.2 (by omega)
    unfold SETQ
    rw [t2]
    exact ⟨⟨t3, t4, by omega, by omega⟩, t5, t7, Or.inr rfl, fun j _ _ => by rw [t6 j]; omega⟩
  · obtain ⟨t1, t2⟩ := hse.1 (by omega)
    have er : mE v 17 = m v 17 := by rw [t2]; exact (if_neg (fun u => hvn u.1)).trans e17
    have hrn : m v 17 ≠ m v 18 := fun u => by have z := h18.2.2.2.2; rw [← u] at z; omega
    unfold SETQ
    rw [er]
    have e := hE.2 (m v 17) w4
    refine ⟨⟨e.1.trans w1, e.2.trans w2, w3, by have := hE.1; omega⟩, fun j q1 q2 => by rw [t2]; exact if_pos ⟨rfl, q1, q2⟩, fun b j q1 q2 q3 => by rw [t2]; exact if_neg (fun u => q2 u.1), Or.inl ⟨rfl, by omega⟩, fun j q1 q2 => ?_⟩
    rw [t2, show fillM mA (m v 18) 40 0 (m v 17) j = mA (m v 17) j from if_neg (fun u => hrn u.1), hA _ j (by omega)]
    exact w6 j q1 q2
theorem INV.prd (h : INV kd ln mem sz tg) : (∀ i : Int, 0 ≤ i → i < mem 35 72 → mem 84 i < mem 35 33 ∧ mem 85 i < mem 47 (mem 84 i)) ∧ ∀ i k : Int, 0 ≤ i → i < k → k < mem 35 72 → ¬ (mem 84 i = mem 84 k ∧ mem 85 i = mem 85 k ∧ mem 86 i = mem 86 k) := ⟨h.2.1.2.2.2.2.2.2.2.2.2.2.2.2.2.1, h.2.1.2.2.2.2.2.2.2.2.2.2.2.2.2.2.1⟩
theorem GRX.set (hI : INV kd ln mem sz tg) (hpg : isPg mem p) (hv : PAGV kd ln mem sz tg p v) (hsc : SCF mem m1) (hA : ∀ b j : Int, ¬ (b = 3 ∧ j = 4) → mA b j = m1 b j) (h34 : mA 3 4 = mem 35 72 - pcR (mem (mem v 18)) (mem 47 p).toNat) (hE : EXT kd ln sz kd' ln' sz') (hq : SETQ kd' ln' m1 mA mE sz sz' v) (hr : r = mE v 17) (hfm : ∀ b j : Int, b ≠ r → mm b j = mE b j) (hrow : ∀ t : Int, 0 ≤ t → t < mem 47 p → mm r t = keptV mem p (numQ mem p t (knw mem))) (hold : ∀ t : Int, mem 47 p ≤ t → mm r t = mE r t) : ∀ M' : Int → Int → Int, SETM mem M' p → GRX kd' ln' mm sz' M' := by
  intro M' hM
  have hs := hI.1.2.2.2.2.1
  have hva := hv.at
  have hPg := hv.2.2
  have h18 := hv.row 18 (by decide)
  have hR := hI.prs
  have hz := hE.1
  obtain ⟨q1, q2, q3, q4, q5⟩ := hq
  have c18 : m1 v 18 = mem v 18 := hsc v 18 (by omega) (by omega) (by omega)
  have c17 : m1 v 17 = mem v 17 := hsc v 17 (by omega) (by omega) (by omega)
  rw [c18] at q2 q3
  rw [c17] at q4
  rw [← hr] at q1 q3 q4 q5
  obtain ⟨m3, s1, s2, s3, s4⟩ := hM
  obtain ⟨f1, f2, f3⟩ := cmM_fr p m3 (mem 35 72).toNat
  have e84 : ∀ k i : Int, 84 ≤ k → k ≤ 87 → m3 k i = mem k i := fun k i u1 u2 => s1 k i (by omega) (by omega) (by omega)
  have hMo : ∀ x i : Int, ¬ (84 ≤ x ∧ x ≤ 87) → ¬ (x = 35 ∧ i = 72) → M' x i = m3 x i := fun x i u1 u2 => by rw [s4]; exact (if_neg u2).trans (f3 x i (by omega))
  have h72 : M' 35 72 = (cmM p (mem 35 72).toNat m3).1 := by rw [s4]; exact s2_s
  have hM84 : ∀ k i : Int, 84 ≤ k → k ≤ 87 → M' k i = (cmM p (mem 35 72).toNat m3).2 k i := fun k i u1 u2 => by rw [s4]; exact s2_a (by omega)
  have hpv : ∀ P n j : Int, pvN M' P n j (M' 35 72).toNat = if P = p then 0 else pvN mem P n j (mem 35 72).toNat := fun P n j => by
    rw [h72, pvN_cg (M := (cmM p (mem 35 72).toNat m3).2) (M' := M') _ (fun s _ _ => ⟨hM84 84 s (by decide) (by decide), hM84 85 s (by decide) (by decide), hM84 86 s (by decide) (by decide), hM84 87 s (by decide) (by decide)⟩), cm_pv]
    split
    · rfl
    · exact pvN_cg _ (fun s _ _ => ⟨e84 84 s (by decide) (by decide), e84 85 s (by decide) (by decide), e84 86 s (by decide) (by decide), e84 87 s (by decide) (by decide)⟩)
  have hcnt : M' 35 72 = mem 35 72 - pcR (mem (mem v 18)) (mem 47 p).toNat := by
    have hR0 := hR.1
    rw [h72, cm_cnt, pcR_prG, prG_cg (G := fun n j => pvN mem p n j (mem 35 72).toNat) (mem 47 p).toNat (fun n j u1 u2 u3 u4 => (hv.2.1.2.2.2.2 n u1 (by omega)).2 j u3 (by omega)), prG_cnt hR (fun i u1 u2 u3 => by have := (hI.prd.1 i u1 u2).2; rw [u3] at this; omega) hI.prd.2 _ (by omega)]
    have : ∀ k : Nat, cntP m3 p k = cntP mem p k := fun k => by
      induction k with
      | zero => rfl
      | succ k ih => unfold cntP; rw [ih, e84 84 k (by decide) (by decide)]
    rw [this]
    omega
  have hr17 : r = mem v 17 ∧ 0 ≤ mem v 17 ∨ r = sz := q4
  have t17 : 0 ≤ mem v 17 → ROW kd ln sz tg (mem v 17) (290000 + 100 * (p + 1) + 17) 21 40 := fun u => by
    rcases hv.2.1.2.2.2.1 with ⟨w1, w2⟩ | ⟨w1, _⟩
    · omega
    · exact w1
  have hvr : v ≠ r := fun u => by
    rcases hr17 with w | w
    · have y := (t17 w.2).2.2.2.2; rw [← w.1, ← u] at y; omega
    · omega
  have h18r : mem v 18 ≠ r := fun u => by
    rcases hr17 with w | w
    · have y := (t17 w.2).2.2.2.2; rw [← w.1, ← u] at y; omega
    · omega
  have hfr : ∀ a i : Int, a < sz → a ≠ mem v 18 → a ≠ r → ¬ (a = v ∧ i = 17) → ¬ (a = 3 ∧ i = 4) → a ≠ 11 → a ≠ 12 → a ≠ 13 → mm a i = mem a i := fun a i u1 u2 u3 u4 u5 u6 u7 u8 => by
    rw [hfm a i u3, q3 a i u4 u2 u3, hA a i u5]; exact hsc a i u6 u7 u8
  have hv17 : mm v 17 = r := (hfm v 17 hvr).trans hr.symm
  have hv18 : mm v 18 = mem v 18 := hfr v 18 (by omega) (fun u => by have y := hva.2.2.2.1; have z := h18.2.2.2.2; rw [← u] at z; omega) hvr (by omega) (by omega) (by omega) (by omega) (by omega)
  refine ⟨fun x => if x < sz then tg x else 290000 + 100 * (p + 1) + 17, GRP.plt hI hv hpg hE (fun a h => if_pos h) (fun a i w => ?_) (fun x i u1 u2 u3 u4 u5 => ?_) ?_ (Or.inr ⟨?_, ?_, fun n u1 u2 => ?_, fun n u1 u2 => ?_⟩) (fun n u1 u2 => ?_) (fun P n j w => by rw [hpv, if_neg w])⟩
  · refine hfr a i (by omega) (by omega) (fun u => ?_) (by omega) (by omega) (by omega) (by omega) (by omega)
    rcases hr17 with x | x
    · have y := (t17 x.2).2.2
      rw [← x.1, ← u] at y
      omega
    · omega
  · rw [hMo x i u4 u5]; exact s1 x i (by omega) u2 (by omega)
  · rw [hfm 3 4 (by omega), q3 3 4 (by omega) (by omega) (by omega), h34, hcnt]
  · rw [hv17]
    refine ⟨q1.1, q1.2.1, q1.2.2.1, q1.2.2.2, ?_⟩
    rcases hr17 with x | x
    · rw [x.1]; exact (if_pos (by have := (t17 x.2).2.2.2.1; omega)).trans (t17 x.2).2.2.2.2
    · rw [x]; exact if_neg (by omega)
  · rw [hMo 82 p (by omega) (by omega)]; exact s2
  · rw [hMo 47 p (by omega) (by omega), s1 47 p (by omega) (by omega) (by omega)] at u2
    rw [hv17, hMo 83 _ (by omega) (by omega), s3 n u1 u2]
    exact hrow n u1 u2
  · rw [hv17]
    rcases Int.lt_or_le n (mem 47 p) with x | x
    · rw [hrow n u1 x]
      exact keptV_bd hPg (numQ_bd hPg hI.sls ⟨u1, x⟩)
    · rw [hold n x]; exact q5 n u1 u2
  · rw [hv18, hfm _ n h18r, q2 n u1 u2]
    refine ⟨by omega, fun j w1 w2 => ?_⟩
    rw [hpv, if_pos rfl]
    unfold nibG
    rw [Int.zero_ediv]; rfl
end
set_option maxHeartbeats 4000000 in
set_option maxRecDepth 100000 in
theorem c_X3_setEmpty2 {l : Launch} {g : GP} (hG : GH g) {kd : Int → Nat} {ln : Int → Int} {mem : Int → Int → Int} {sz : Nat} (p : Int) (hkp : kd p = 5) (hp0 : 0 ≤ p) (hz : p < sz ∧ mem p 18 < sz) (hk18 : kd (mem p 18) = 21 ∧ ln (mem p 18) = 40 ∧ 3 ≤ mem p 18) (hne : mem p 18 ≠ p) : MT l g yX3_setEmpty cX3_setEmpty 1 none 1 1 40 [(2, p)] kd ln mem sz (pXV (fun kd' ln' mem' sz' => ((0 ≤ mem p 17 → sz' = sz ∧ mem' = fillM mem (mem p 18) 40 0) ∧ (mem p 17 < 0 → sz' = sz + 1 ∧ mem' p 17 = sz ∧ kd' sz = 21 ∧ ln' sz = 40 ∧ (∀ j : Int, 0 ≤ j → j < 40 → mem' (mem p 18) j = 0) ∧ (∀ j : Int, mem' sz j = 0) ∧ ∀ b j : Int, ¬ (b = p ∧ j = 17) → b ≠ mem p 18 → b ≠ sz → mem' b j = mem b j))) kd ln sz) := by
  refine MT_of hG (by decide +kernel) (Nat.le_of_ble_eq_true rfl) (fun z hF hr hn => ?_)
  refine jblk hF [(.aload_n 0, 1)] (by decide +kernel) (pc' := 1) (lo' := [(0, (2, p))]) (st' := [(2, p)]) rfl ?_
  refine jget hF 4 17 2 17 rfl (by decide) (by decide) rfl wd_727 (by decide +kernel) (by first | assumption | omega) ?_
  refine jnonnull hF (off := 11) 15 (by decide +kernel) (by decide) (fun h_1 => ?_) (fun h_1 => ?_)
  · refine jblk hF [(.aload_n 0, 1)] (by decide +kernel) (pc' := 16) (lo' := [(0, (2, p))]) (st' := [(2, p)]) rfl ?_
    refine jget hF 4 18 2 18 rfl (by decide) (by decide) rfl wd_728 (by decide +kernel) (by first | assumption | omega) ?_
    have e18 : (mem p 18) = mem p 18 := by first | rfl | exact hmoA p 18 (by omega)
    refine jlconst hF (n := 0) 0 rfl (by decide +kernel) ?_
    refine jcallS hF (c_J7_fill_d0a16 hG (mem p 18) 0 (by first | exact hk18.1 | (rw [e18]; exact hk184)) (by omega) (by first | omega | (rw [e18]; omega))) MW_J7_fill_d0a16 wd_1126 wd_808 (by decide +kernel) [] rfl rfl (by decide) (Nat.le_of_ble_eq_true rfl) (by decide) (kMV (fun m_2 h_3 => ?_))
    have hf := h_3
    refine jwiden (k := 1) (n := 40) (Nat.le_of_ble_eq_true rfl) (Nat.le_of_ble_eq_true rfl) ?_
    refine jvret hF hr (by decide +kernel) ?_
    exact ⟨rfl, EXT.rf, (by first | exact ⟨fun _ => ⟨rfl, by rw [hf, hk18.2.1]⟩, fun q => absurd q (by omega)⟩ | (rw [e18, hl184] at hf; exact ⟨fun q => absurd q (by omega), fun _ => ⟨by omega, by rw [hf]; exact (if_neg (by omega)).trans (s2_s), hkA, hlA, fun j h1 h2 => by rw [hf]; exact if_pos ⟨rfl, h1, h2⟩, fun j => by rw [hf]; exact (if_neg (by omega)).trans ((s2_a (by omega)).trans (hmnA j)), fun b j q1 q2 q3 => by rw [hf]; refine (if_neg (by omega)).trans (((if_neg q1).trans (hmoA b j (by omega))))⟩⟩))⟩
  · refine jblk hF [(.aload_n 0, 1), (.bipush 40, 2)] (by decide +kernel) (pc' := 10) (lo' := [(0, (2, p))]) (st' := [(0, 40), (2, p)]) rfl ?_
    refine jnewa hF (at' := .long) 1 (by decide) rfl wd_210 (by decide +kernel) (by omega) (by omega) ⟨Nat.le_of_ble_eq_true rfl, Nat.le_of_ble_eq_true rfl⟩ ?_
    obtain ⟨kd_4, hkd_4⟩ : ∃ q : Int → Nat, q = upK kd ((sz : Nat) : Int) (21) := ⟨_, rfl⟩
    obtain ⟨ln_4, hln_4⟩ : ∃ q : Int → Int, q = upL ln ((sz : Nat) : Int) 40 := ⟨_, rfl⟩
    obtain ⟨m_4, hm_4⟩ : ∃ q : Int → Int → Int, q = newA 0 mem ((sz : Nat) : Int) := ⟨_, rfl⟩
    obtain ⟨sz_4, hsz_4⟩ : ∃ q : Nat, q = sz + 1 := ⟨_, rfl⟩
    obtain ⟨a_4, ha_4⟩ : ∃ q : Int, q = ((sz : Nat) : Int) := ⟨_, rfl⟩
    rw [← hkd_4, ← hln_4, ← hm_4, ← hsz_4]
    rw [← ha_4]
    have hk_4 : kd_4 a_4 = 21 := by rw [ha_4, hkd_4]; exact if_pos rfl
    have hl_4 : ln_4 a_4 = 40 := by rw [ha_4, hln_4]; exact if_pos rfl
    have hE_4 : EXT kd ln sz kd_4 ln_4 sz_4 := by rw [hsz_4, hkd_4, hln_4]; exact EXT.a _ _
    have hEE_4 : EXT kd ln sz kd_4 ln_4 sz_4 := (EXT.rf).tr hE_4
    have hmo_4 : ∀ b j : Int, b ≠ a_4 → m_4 b j = mem b j := fun b j q => by rw [hm_4]; exact newA_o j (by rw [← ha_4]; exact q)
    have hmn_4 : ∀ j : Int, m_4 a_4 j = 0 := fun j => by rw [hm_4, ha_4]; exact newA_s j
    have hmoA := hmo_4
    have hmnA := hmn_4
    have hEA := hE_4
    have hkA := hk_4
    have haA := ha_4
    have hszA := hsz_4
    have hEEA := hEE_4
    have hlA := hl_4
    have hkp4 := (hEA.2 p (by omega)).1.trans hkp
    have hk184 := (hEA.2 (mem p 18) (by omega)).1.trans hk18.1
    have hl184 := (hEA.2 (mem p 18) (by omega)).2.trans hk18.2.1
    refine jput hF 4 17 2 17 rfl (by decide) (by decide) rfl wd_727 (by decide +kernel) rfl (Or.inr (Or.inr (Or.inr (Or.inr ⟨_, rfl⟩)))) (by first | assumption | omega) (fun h => by cases h) ?_
    refine jblk hF [(.aload_n 0, 1)] (by decide +kernel) (pc' := 16) (lo' := [(0, (2, p))]) (st' := [(2, p)]) rfl ?_
    refine jget hF 4 18 2 18 rfl (by decide) (by decide) rfl wd_728 (by decide +kernel) (by first | assumption | omega) ?_
    rw [show (set2 m_4 p 17 a_4) p 18 = m_4 p 18 from (s2_k (by decide))]
    have e18 : (m_4 p 18) = mem p 18 := by first | rfl | exact hmoA p 18 (by omega)
    refine jlconst hF (n := 0) 0 rfl (by decide +kernel) ?_
    refine jcallS hF (c_J7_fill_d0a16 hG (m_4 p 18) 0 (by first | exact hk18.1 | (rw [e18]; exact hk184)) (by omega) (by first | omega | (rw [e18]; omega))) MW_J7_fill_d0a16 wd_1126 wd_808 (by decide +kernel) [] rfl rfl (by decide) (Nat.le_of_ble_eq_true rfl) (by decide) (kMV (fun m_5 h_6 => ?_))
    have hf := h_6
    refine jwiden (k := 1) (n := 40) (Nat.le_of_ble_eq_true rfl) (Nat.le_of_ble_eq_true rfl) ?_
    refine jvret hF hr (by decide +kernel) ?_
    exact ⟨rfl, hEE_4, (by first | exact ⟨fun _ => ⟨rfl, by rw [hf, hk18.2.1]⟩, fun q => absurd q (by omega)⟩ | (rw [e18, hl184] at hf; exact ⟨fun q => absurd q (by omega), fun _ => ⟨by omega, by rw [hf]; exact (if_neg (by omega)).trans (s2_s), hkA, hlA, fun j h1 h2 => by rw [hf]; exact if_pos ⟨rfl, h1, h2⟩, fun j => by rw [hf]; exact (if_neg (by omega)).trans ((s2_a (by omega)).trans (hmnA j)), fun b j q1 q2 q3 => by rw [hf]; refine (if_neg (by omega)).trans (((if_neg q1).trans (hmoA b j (by omega))))⟩⟩))⟩
set_option maxHeartbeats 4000000 in
set_option maxRecDepth 100000 in
theorem c_X11_set {l : Launch} {g : GP} (hG : GH g) {kd : Int → Nat} {ln : Int → Int} {mem : Int → Int → Int} {sz : Nat} (hK : HK kd ln) (hR : HR mem) (p : Int) (tg : Int → Int) (hI : INV kd ln mem sz tg) (hTN : TNS g) (h_p : InI p) : MT l g yX11_set cX11_set 4 (some .boolean) 5 1 40 [(2, 3), (0, p)] kd ln mem sz (pXR 0 (fun v kd' ln' mem' sz' => HR mem' ∧ ((isPg mem p → v = 1 ∧ ∀ M' : Int → Int → Int, SETM mem M' p → GRX kd' ln' mem' sz' M') ∧ (¬ isPg mem p → v = 0 ∧ GRX kd' ln' mem' sz' mem) ∧ MKP mem mem')) kd ln sz) := by
  refine MT_of hG (by decide +kernel) (Nat.le_of_ble_eq_true rfl) (fun z hF hr hn => ?_)
  obtain ⟨⟨q0, q1, q2, q3, q4, q5⟩, u0, u2, u46, u89, usz⟩ := hI.num
  have n29 : 0 ≤ mem 35 33 ∧ mem 35 33 ≤ 12 := ⟨hI.pgs.1, hI.pgs.2.1⟩
  obtain ⟨e29, k29, r29, b29, c29⟩ := hI.g29.ls
  have hkn : 0 ≤ knw mem ∧ knw mem ≤ mem 35 0 := by unfold knw; split <;> omega
  refine jblk hF [(.aload_n 0, 1), (.iload_n 1, 1), (.aload_n 0, 1)] (by decide +kernel) (pc' := 3) (lo' := [(0, (2, 3)), (1, (0, p))]) (st' := [(2, 3), (0, p), (2, 3)]) rfl ?_
  refine jcallV hF (c_X11_known hG hK hR (by exact tg) (by assumption)) MW_X11_known 12 (by decide) (by exact hK.k3) wd_1107 wd_403 wd_404 (by decide +kernel) [(0, p), (2, 3)] rfl rfl (by decide) (Nat.le_of_ble_eq_true rfl) (by decide) (kV ?_)
  refine jcallV hF (c_X11_madePage hG hK hR p (knw mem) (by exact tg) (by assumption) (by omega) (by omega)) MW_X11_madePage 12 (by decide) (by exact hK.k3) wd_940 wd_942 wd_p27 (by decide +kernel) [] rfl rfl (by decide) (Nat.le_of_ble_eq_true rfl) (by decide) (kMR (fun v_3 m_1 h_2 => ?_))
  obtain ⟨hR_m_1, h_2⟩ := h_2
  have hw := h_2
  have hIm := hI.scf hw.1
  refine jblk hF [(.astore_n 2, 1), (.aload_n 2, 1)] (by decide +kernel) (pc' := 11) (lo' := [(2, (2, v_3)), (0, (2, 3)), (1, (0, p))]) (st' := [(2, v_3)]) rfl ?_
  refine jnonnull hF (off := 5) 16 (by decide +kernel) (by decide) (fun h_4 => ?_) (fun h_4 => ?_)
  · obtain ⟨hpg, hpo, hmd⟩ := hw.2.1 (by omega)
    have hk := hpo.at
    have hpm := hpo.scf hw.1 hI
    have hpb := hpm.pb
    have hgn := hpm.nm
    have hn2 := hgn.2.2.1
    have hn4 := hgn.2.2.2.2.1
    have hn7 := hgn.2.2.2.2.2.2.2.1
    have hc47 := hw.1.c47 p
    have hc49 := hw.1.c49 p
    have hc52 := hw.1.c52 p
    have hsc := hw.1
    have h18 := hpm.r8 (k := 18) (by decide)
    have t18 := hpm.row 18 (by decide)
    have hrs := hIm.prs
    have hrs1 := hrs.1
    have hwa := hpm.wa
    have hkv := hk.1
    have hgn0 := hpo.nm
    have hc18 : m_1 v_3 18 = mem v_3 18 := hsc v_3 18 (by omega) (by omega) (by omega)
    have hcr : m_1 (mem v_3 18) = mem (mem v_3 18) := hsc.cg (by rw [← hc18]; omega)
    have e34 : m_1 3 4 = mem 35 72 := (hsc 3 4 (by decide) (by decide) (by decide)).trans q4
    have hpcb := pcR_bd (m_1 (m_1 v_3 18)) (m_1 v_3 2).toNat
    refine jblk hF [(.aload_n 0, 1), (.dup, 1)] (by decide +kernel) (pc' := 18) (lo' := [(2, (2, v_3)), (0, (2, 3)), (1, (0, p))]) (st' := [(2, 3), (2, 3)]) rfl ?_
    refine jget hF 12 4 0 4 rfl (by decide) (by decide) rfl wd_330 (by decide +kernel) (by exact hK.k3) ?_
    refine jblk hF [(.aload_n 2, 1)] (by decide +kernel) (pc' := 22) (lo' := [(2, (2, v_3)), (0, (2, 3)), (1, (0, p))]) (st' := [(2, v_3), (0, m_1 3 4), (2, 3)]) rfl ?_
    refine jcallV hF (c_X3_pressSlips hG v_3 (by exact hk.1) (by omega) (by exact ⟨h18.1, h18.2.1, by omega⟩) (by exact hwa) (by omega)) MW_X3_pressSlips 4 (by decide) (by first | exact hk.1 | exact hkvE | assumption | omega) wd_1108 wd_1109 wd_1110 (by decide +kernel) [(0, m_1 3 4), (2, 3)] rfl rfl (by decide) (Nat.le_of_ble_eq_true rfl) (by decide) (kV ?_)
    refine jblk hF [(.isub, 1)] (by decide +kernel) (pc' := 26) (lo' := [(2, (2, v_3)), (0, (2, 3)), (1, (0, p))]) (st' := [(0, (m_1 3 4) - (pcR (m_1 (m_1 v_3 18)) (m_1 v_3 2).toNat)), (2, 3)]) rfl ?_
    refine jput hF 12 4 0 4 rfl (by decide) (by decide) rfl wd_330 (by decide +kernel) rfl (Or.inl rfl) (by exact hK.k3) (fun h => by cases h) ?_
    obtain ⟨mA, hmA⟩ : ∃ q : Int → Int → Int, q = (set2 m_1 3 4 ((m_1 3 4) - (pcR (m_1 (m_1 v_3 18)) (m_1 v_3 2).toNat))) := ⟨_, rfl⟩
    rw [← hmA]
    have hR_mA : HR mA := by rw [hmA]; exact (HR.s hR_m_1 (by omega))
    have e18A : mA v_3 18 = m_1 v_3 18 := by rw [hmA]; exact s2_a (by omega)
    have e17A : mA v_3 17 = m_1 v_3 17 := by rw [hmA]; exact s2_a (by omega)
    have hfA : ∀ b j : Int, ¬ (b = 3 ∧ j = 4) → mA b j = m_1 b j := fun b j u => by rw [hmA]; exact if_neg u
    have hk18A : kd (mA v_3 18) = 21 ∧ ln (mA v_3 18) = 40 ∧ 3 ≤ mA v_3 18 := by rw [e18A]; exact ⟨h18.1, h18.2.1, by omega⟩
    have hneA : mA v_3 18 ≠ v_3 := by rw [e18A]; intro u; have y := hk.2.2.2.1; have z := t18.2.2.2.2; rw [u] at z; omega
    refine jblk hF [(.aload_n 2, 1)] (by decide +kernel) (pc' := 30) (lo' := [(2, (2, v_3)), (0, (2, 3)), (1, (0, p))]) (st' := [(2, v_3)]) rfl ?_
    refine jcallV hF (c_X3_setEmpty2 hG v_3 (by exact hkv) (by omega) (by (rw [e18A]; omega)) (by exact hk18A) (by exact hneA)) MW_X3_setEmpty 4 (by decide) (by first | exact hk.1 | exact hkvE | assumption | omega) wd_1122 wd_1123 wd_1124 (by decide +kernel) [] rfl rfl (by decide) (Nat.le_of_ble_eq_true rfl) (by decide) (kXV (fun kd_5 ln_5 m_5 sz_5 hE_5 h_5 => ?_))
    have hEE_5 : EXT kd ln sz kd_5 ln_5 sz_5 := (EXT.rf).tr hE_5
    have hK_5 : HK kd_5 ln_5 := hK.ext hE_5 (by omega)
    have hse := h_5
    have hEx := hE_5
    have hst : SETQ kd_5 ln_5 m_1 mA m_5 sz sz_5 v_3 := setE hse hfA hpm hEx usz
    have hst0 := hst
    obtain ⟨st1, st2, st3, st4, st5⟩ := hst
    have hR_m_5 : HR m_5 := HR.of hR_mA (fun x k u => st3 x k (by omega) (by omega) (by omega))
    obtain ⟨r, hr0⟩ : ∃ y : Int, y = m_5 v_3 17 := ⟨_, rfl⟩
    rw [← hr0] at st1 st3 st5
    have hkvE : kd_5 v_3 = 5 := (hEx.2 v_3 (by omega)).1.trans hkv
    have hnr : v_3 ≠ r := fun u => by rw [← u] at st1; omega
    have hn18 : v_3 ≠ m_1 v_3 18 := fun u => by rw [← u] at t18; omega
    have h2E : m_5 v_3 2 = mem 47 p := by rw [st3 v_3 2 (by omega) hn18 hnr, hfA v_3 2 (by omega), hn2, hc47]
    have h6E : m_5 v_3 6 = m_1 v_3 6 := by rw [st3 v_3 6 (by omega) hn18 hnr, hfA v_3 6 (by omega)]
    have h8E : m_5 v_3 8 = m_1 v_3 8 := by rw [st3 v_3 8 (by omega) hn18 hnr, hfA v_3 8 (by omega)]
    have h11E : ∀ i : Int, m_5 11 i = m_1 11 i := fun i => by rw [st3 11 i (by omega) (by omega) (by omega), hfA 11 i (by omega)]
    refine jblk hF [(.iconst 0, 1), (.istore_n 3, 1)] (by decide +kernel) (pc' := 35) (lo' := [(3, (0, 0)), (2, (2, v_3)), (0, (2, 3)), (1, (0, p))]) (st' := []) rfl ?_
    have L_7 : ∀ (fu_8 : Nat) (i : Int) (m : Int → Int → Int), (HR m) → (0 ≤ i ∧ i ≤ mem 47 p) → (∀ b j : Int, b ≠ r → m b j = m_5 b j) → (∀ t : Int, 0 ≤ t → t < i → m r t = keptV mem p (numQ mem p t (knw mem))) → (∀ t : Int, i ≤ t → m r t = m_5 r t) →  (mem 47 p - i).toNat < fu_8 → J z g 4 1 40 (QM z g 1 40 (pXR 0 (fun v kd' ln' mem' sz' => HR mem' ∧ ((isPg mem p → v = 1 ∧ ∀ M' : Int → Int → Int, SETM mem M' p → GRX kd' ln' mem' sz' M') ∧ (¬ isPg mem p → v = 0 ∧ GRX kd' ln' mem' sz' mem) ∧ MKP mem mem')) kd ln sz)) 35 [(0, (2, 3)), (1, (0, p)), (2, (2, v_3)), (3, (0, i))] [] kd_5 ln_5 m sz_5 := by
      intro fu_8
      induction fu_8 with
      | zero => intro i m _ _ _ _ _ hm; omega
      | succ fu_8 ih_6 =>
        intro i m hR_m hi hfm hrow hold hm
        have hvr : m v_3 17 = r := (hfm v_3 17 (by omega)).trans hr0.symm
        have e2m : m v_3 2 = mem 47 p := (hfm v_3 2 (by omega)).trans h2E
        have e6m : m v_3 6 = m_1 v_3 6 := (hfm v_3 6 (by omega)).trans h6E
        have e8m : m v_3 8 = m_1 v_3 8 := (hfm v_3 8 (by omega)).trans h8E
        have hkp0 : 0 ≤ i → i < mem 47 p → nearBy (wL (m 11 i)) (10 ^ (m v_3 6).toNat) (m v_3 8) = keptV mem p (numQ mem p i (knw mem)) := fun u1 u2 => by rw [hfm 11 i (by omega), h11E, e6m, e8m]; exact hpo.kept hsc (hmd.1 i u1 u2)
        refine jblk hF [(.iload_n 3, 1), (.aload_n 2, 1)] (by decide +kernel) (pc' := 37) (lo' := [(0, (2, 3)), (1, (0, p)), (2, (2, v_3)), (3, (0, i))]) (st' := [(2, v_3), (0, i)]) rfl ?_
        refine jget hF 4 2 0 2 rfl (by decide) (by decide) rfl wd_697 (by decide +kernel) (by first | exact hk.1 | exact hkvE | assumption | omega) ?_
        refine jicmp_ge hF (off := 23) 63 (by decide +kernel) (by decide) (by omega) (by omega) (fun h_9 => ?_) (fun h_9 => ?_)
        · refine jblk hF [(.iconst 1, 1)] (by decide +kernel) (pc' := 64) (lo' := [(0, (2, 3)), (1, (0, p)), (2, (2, v_3)), (3, (0, i))]) (st' := [(0, 1)]) rfl ?_
          refine jwiden (k := 1) (n := 40) (Nat.le_of_ble_eq_true rfl) (Nat.le_of_ble_eq_true rfl) ?_
          refine jzret hF hr (by omega) (by decide +kernel) ?_
          exact ⟨_, rfl, hEE_5, ⟨hR_m, by exact ⟨fun _ => ⟨rfl, GRX.set hI hpg.1 hpo hsc hfA (by rw [hmA, s2_s, e34, hn2, hc47, hc18, hcr]) hEx hst0 hr0 hfm (fun t u1 u2 => hrow t u1 (by omega)) (fun t u => hold t (by omega))⟩, fun u => absurd hpg.1 u, ⟨fun a j u1 u2 => (hfm a j (by omega)).trans ((st3 a j (by omega) (by omega) (by omega)).trans ((hfA a j (by omega)).trans (hsc a j (by omega) (by omega) (by omega)))), by (have w := hIm.1.2.2.2.2.2; unfold EB at *; rw [hfm 7 3 (by omega), hfm 7 4 (by omega), hfm 7 5 (by omega), st3 7 3 (by omega) (by omega) (by omega), st3 7 4 (by omega) (by omega) (by omega), st3 7 5 (by omega) (by omega) (by omega), hfA 7 3 (by omega), hfA 7 4 (by omega), hfA 7 5 (by omega)]; exact w)⟩⟩⟩⟩
        · have hkp := hkp0 (by omega) (by omega)
          refine jblk hF [(.aload_n 2, 1), (.iload_n 3, 1), (.aload_n 0, 1)] (by decide +kernel) (pc' := 46) (lo' := [(0, (2, 3)), (1, (0, p)), (2, (2, v_3)), (3, (0, i))]) (st' := [(2, 3), (0, i), (2, v_3)]) rfl ?_
          refine jget hF 12 9 2 9 rfl (by decide) (by decide) rfl wd_335 (by decide +kernel) (by exact hK_5.k3) ?_
          rw [HR.r3_9 hR_m]
          refine jblk hF [(.aload_n 2, 1), (.iload_n 3, 1)] (by decide +kernel) (pc' := 51) (lo' := [(0, (2, 3)), (1, (0, p)), (2, (2, v_3)), (3, (0, i))]) (st' := [(0, i), (2, v_3), (2, 10), (0, i), (2, v_3)]) rfl ?_
          refine jcallV hF (c_X2_keptOf hG hK_5 hR_m v_3 i (by assumption) (by exact hkvE) (by omega) (by omega)) MW_X2_keptOf 3 (by decide) (by exact hK_5.k10) wd_987 wd_988 wd_989 (by decide +kernel) [(0, i), (2, v_3)] rfl rfl (by decide) (Nat.le_of_ble_eq_true rfl) (by decide) (kV ?_)
          rw [hkp]
          refine jcallV hF (c_X3_setLine hG v_3 i (keptV mem p (numQ mem p i (knw mem))) (by exact hkvE) (by omega) (by (rw [hvr]; exact fun _ => ⟨st1.1, st1.2.1, by omega⟩)) (by omega) (by omega)) MW_X3_setLine 4 (by decide) (by first | exact hk.1 | exact hkvE | assumption | omega) wd_1127 wd_1128 wd_1129 (by decide +kernel) [] rfl rfl (by decide) (Nat.le_of_ble_eq_true rfl) (by decide) (kMV (fun m_10 h_11 => ?_))
          have hsl := h_11
          have hslN : m_10 = set2 m r i (keptV mem p (numQ mem p i (knw mem))) := by rw [hsl, if_pos ⟨by omega, by omega, by omega⟩, hvr]
          have hR_m_10 : HR m_10 := by rw [hslN]; exact HR.s hR_m (by omega)
          refine jblk hF [(.iinc 3 1, 3)] (by decide +kernel) (pc' := 60) (lo' := [(3, (0, i + 1)), (0, (2, 3)), (1, (0, p)), (2, (2, v_3))]) (st' := []) rfl ?_
          refine jgoto hF (off := (-25)) 35 (by decide +kernel) (by decide) ?_
          refine jsub [1, 2, 3, 0] rfl ?_
          refine ih_6 (i + 1) m_10 ?_ ?_ ?_ ?_ ?_ ?_
          · first | exact HR.s hR_m (by omega) | (rw [hslN]; exact HR.s hR_m (by omega))
          · omega
          · (intro b j u; rw [hslN]; exact (s2_a u).trans (hfm b j u))
          · (intro t u1 u2; rw [hslN]; by_cases u : t = i; (rw [u]; exact s2_s); exact (s2_k u).trans (hrow t u1 (by omega)))
          · (intro t u; rw [hslN]; exact (s2_k (by omega)).trans (hold t (by omega)))
          · omega
    refine jwiden (k := 1) (n := 40) (Nat.le_of_ble_eq_true rfl) (Nat.le_of_ble_eq_true rfl) ?_
    refine jsub [2, 3, 1, 0] rfl ?_
    refine L_7 _ 0 m_5 ?_ ?_ ?_ ?_ ?_ (Nat.lt_succ_self _)
    · exact hR_m_5
    · omega
    · (intro b j _; rfl)
    · (intro t u1 u2; omega)
    · (intro t _; rfl)
  · have hng : ¬ isPg mem p := fun u => (hw.2.2 (by omega)).1 ⟨u, hkn⟩
    have hmq := (hw.2.2 (by omega)).2.2
    refine jblk hF [(.iconst 0, 1)] (by decide +kernel) (pc' := 15) (lo' := [(2, (2, v_3)), (0, (2, 3)), (1, (0, p))]) (st' := [(0, 0)]) rfl ?_
    refine jwiden (k := 1) (n := 40) (Nat.le_of_ble_eq_true rfl) (Nat.le_of_ble_eq_true rfl) ?_
    refine jzret hF hr (by omega) (by decide +kernel) ?_
    exact ⟨_, rfl, EXT.rf, ⟨hR_m_1, by exact ⟨fun u => absurd u hng, fun _ => ⟨rfl, by rw [hmq]; exact ⟨tg, hI.2.2⟩⟩, by rw [hmq]; exact MKP.rf hI⟩⟩⟩
end
