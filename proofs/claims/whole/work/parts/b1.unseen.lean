section
section
variable {kd : Int → Nat} {ln : Int → Int} {mem m mm : Int → Int → Int} {sz : Nat} {tg : Int → Int} {p q v n s sl i am val : Int} {ad ad' : Int → Int}
theorem PAGV.hls_ad (hP : PAGV kd ln mem sz tg p v) (h : SCF mem m) (hn : 0 ≤ n ∧ n < mem 47 p) (had : ∀ i c : Int, n - n % mem 52 p + mem 49 p < i → i ≤ n → 0 ≤ c → c ≤ 4 → c < mem 49 p ∨ c = 4 → ad (5 * i + c) = ad' (5 * i + c)) : hlS m (nmS m ad v) (clS m ad v) v n ↔ hldA mem p ad' n := by
  have hv := hP.at
  have hpg := hP.2.2
  have t13 := hP.row 13 (by decide)
  obtain ⟨g0, g1, g2, g3, g4, g5, g6, g7, g8⟩ := hP.nm
  have hb := blk_st (m := mem 52 p) (n := n) (by omega) hn.1
  have e13 : m (m v 13) = mem (mem v 13) := by rw [h v 13 (by omega) (by omega) (by omega)]; exact h.cg (by omega)
  have e4 : m v 4 = mem 49 p := (h v 4 (by omega) (by omega) (by omega)).trans g4
  have e7 : m v 7 = mem 52 p := (h v 7 (by omega) (by omega) (by omega)).trans g7
  have hnr : ∀ i : Int, 0 ≤ i → i < mem 47 p → mem (mem v 13) i = nearP mem p i := fun i w1 w2 => (hP.2.1.2.2.1 i w1 w2).2.2.2.2.2.1
  have hbi : ∀ i : Int, n - n % mem 52 p ≤ i → i ≤ n → i - i % mem 52 p = n - n % mem 52 p := fun i w1 w2 => by
    have := blk_mod (s := n - n % mem 52 p) (n := i) (m := mem 52 p) (by omega) hb.1 (by omega) (by omega)
    omega
  refine hP.hlv h hn (fun i w1 w2 => ?_) (fun i w1 w2 => ?_)
  · unfold nmS
    rw [e13, e4, e7]
    have y := hbi i w1 w2
    exact numF_cg (by omega) (by omega) (by omega) (fun k u1 u2 => hnr k (by omega) (by omega)) (fun k c u1 u2 u3 u4 u5 => had k c (by omega) (by omega) u3 u4 u5)
  · show rowF (m (m v 13)) ad (m v 4) (m v 7) i 1 = rowF (nearP mem p) ad' (mem 49 p) (mem 52 p) i 1
    rw [e13, e4, e7]
    have y := hbi i (by omega) w2
    exact rowF_cg (by omega) (by omega) (by omega) (by omega) (by omega) (fun k u1 u2 => hnr k (by omega) (by omega)) (fun k c u1 u2 u3 u4 => had k c (by omega) (by omega) u3 (by omega) (Or.inl u4))
theorem PAGV.hldA_cg (hP : PAGV kd ln mem sz tg p v) (hn : 0 ≤ n ∧ n < mem 47 p) (had : ∀ i c : Int, n - n % mem 52 p + mem 49 p < i → i ≤ n → 0 ≤ c → c ≤ 4 → c < mem 49 p ∨ c = 4 → ad (5 * i + c) = ad' (5 * i + c)) : hldA mem p ad n ↔ hldA mem p ad' n :=
  (hP.hls_ad (m := mem) SCF.rf (ad := ad) (ad' := ad) hn (fun _ _ _ _ _ _ _ => rfl)).symm.trans (hP.hls_ad (m := mem) SCF.rf hn had)
theorem flN_df {a : Int} (h0 : 0 ≤ a) : ∀ k : Nat, (∀ n : Int, a ≤ n → n < a + k → (hldA mem p ad n ↔ hldA mem p ad' n)) → flN mem p ad (a + k).toNat - flN mem p ad a.toNat = flN mem p ad' (a + k).toNat - flN mem p ad' a.toNat := by
  intro k
  induction k with
  | zero => intro _; rw [show a + ((0 : Nat) : Int) = a by omega]; omega
  | succ k ih =>
    intro hh
    have e := hh (a + k) (by omega) (by omega)
    have i2 := ih (fun n w1 w2 => hh n w1 (by omega))
    rw [show (a + ((k + 1 : Nat) : Int)).toNat = (a + k).toNat + 1 by omega, flN, flN, show (((a + (k : Int)).toNat : Nat) : Int) = a + k by omega]
    by_cases w : hldA mem p ad (a + k)
    · rw [if_pos w, if_pos (e.1 w)]; omega
    · rw [if_neg w, if_neg (fun u => w (e.2 u))]; omega
theorem flN_to {a b : Int} (h0 : 0 ≤ a ∧ a ≤ b) (h : ∀ n : Int, a ≤ n → n < b → (hldA mem p ad n ↔ hldA mem p ad' n)) : flN mem p ad b.toNat - flN mem p ad a.toNat = flN mem p ad' b.toNat - flN mem p ad' a.toNat := by
  have := flN_df (mem := mem) (p := p) (ad := ad) (ad' := ad') h0.1 (b - a).toNat (fun n w1 w2 => h n w1 (by omega))
  rw [show a + (((b - a).toNat : Nat) : Int) = b by omega] at this
  exact this
theorem FPG.mbl (h : FPG m mm v (m v 2)) (hv : 35 ≤ v) (h13 : 35 ≤ m v 13) : MBL mm mm (mm (mm v 13)) (mm 13) (mm v 4) (mm v 7) 0 (mm v 2) := by
  have e : ∀ k : Int, mm v k = m v k := fun k => h.1 v k (by omega) (by omega)
  rw [e 13, e 4, e 7, e 2, show mm (m v 13) = m (m v 13) from funext fun j => h.1 _ j (by omega) (by omega), show mm 13 = m 13 from funext fun j => h.1 13 j (by decide) (by decide)]
  exact h.2
/-- the failing lines of a page without slips -/
theorem PAGV.fl0 (hP : PAGV kd ln mem sz tg p v) (h : SCF mem m) (h13 : ∀ j : Int, 0 ≤ j → j < 200 → m 13 j = 0) (hf : FPG m mm v (m v 2)) : fcS mm (mm 11) (c1F mm) v 0 (mem 47 p).toNat = flN mem p (fun _ => 0) (mem 47 p).toNat := by
  have hv := hP.at
  have hpg := hP.2.2
  have w11 := hP.row 11 (by decide)
  have w12 := hP.row 12 (by decide)
  have w13 := hP.row 13 (by decide)
  obtain ⟨g0, g1, g2, g3, g4, g5, g6, g7, g8⟩ := hP.nm
  have mv : ∀ k : Int, m v k = mem v k := fun k => h v k (by omega) (by omega) (by omega)
  have hs2 : SCF mem mm := fun a j q1 q2 q3 => (hf.1 a j q1 q2).trans (h a j q1 q2 q3)
  have hpc : PCE m mm v := ⟨fun k => hf.1 v k (by omega) (by omega), by funext j; rw [mv 11]; exact hf.1 _ j (by omega) (by omega), by funext j; rw [mv 12]; exact hf.1 _ j (by omega) (by omega), by funext j; rw [mv 13]; exact hf.1 _ j (by omega) (by omega)⟩
  rw [fcS_fl (p := p) (mem := mem) (ad := fun _ => 0) 0 (by omega) _ (fun n w1 w2 => ?_)]
  · rw [show (0 : Int) + (((mem 47 p).toNat : Nat) : Int) = mem 47 p by omega]
    show _ - 0 = _
    omega
  · have hb := blk_st (m := mem 52 p) (n := n) (by omega) w1
    refine (MBL.hl hf.2 hpc (by rw [mv 7]; omega) (by rw [mv 4]; omega) w1 (by rw [mv 7, g7]; omega) (by rw [mv 2]; omega)).trans (hP.hls_ad h ⟨w1, by omega⟩ (fun i c u1 u2 u3 u4 u5 => h13 _ (by omega) (by omega)))
/-- one slip's lines, told from without it -/
theorem PAGV.fone (hP : PAGV kd ln mem sz tg p v) (h : SCF mem m) (h13 : ∀ j : Int, 0 ≤ j → j < 200 → m 13 j = 0) (hs : SL mem s) (hsp : mem 63 s = p) (e1 : m sl 1 = mem 64 s) (e2 : m sl 2 = mem 65 s) (e3 : m sl 3 = mem 66 s) (hF : FMB m mm v sl val) : flN mem p (fun _ => 0) (mem 47 p).toNat + val = flN mem p (oneA (5 * mem 64 s + slotV (mem 65 s)) (mem 66 s)) (mem 47 p).toNat := by
  have hv := hP.at
  have hpg := hP.2.2
  obtain ⟨g0, g1, g2, g3, g4, g5, g6, g7, g8⟩ := hP.nm
  have e4 : m v 4 = mem 49 p := (h v 4 (by omega) (by omega) (by omega)).trans g4
  have e7 : m v 7 = mem 52 p := (h v 7 (by omega) (by omega) (by omega)).trans g7
  have ee : m v 2 = mem 47 p := (h v 2 (by omega) (by omega) (by omega)).trans g2
  obtain ⟨x1, x2, x3, x4, x5, x6, x7⟩ := hs
  rw [hsp] at x4 x5 x6
  have hsl4 : 0 ≤ slotV (mem 65 s) ∧ slotV (mem 65 s) ≤ 4 := by unfold slotV; split <;> omega
  have hf := hF.1
  rw [e1, e2, e3, e7] at hf
  obtain ⟨N, hN⟩ : ∃ y : Int, y = mem 64 s := ⟨_, rfl⟩
  obtain ⟨c0, hc0⟩ : ∃ y : Int, y = slotV (mem 65 s) := ⟨_, rfl⟩
  rw [← hN, ← hc0] at hf ⊢
  rw [← hN] at x3 x4 x5
  rw [← hc0] at hsl4
  have hb := blk_st (m := mem 52 p) (n := N) (by omega) x3
  have hd := Int.mul_ediv_add_emod N (mem 52 p)
  have hS : N / mem 52 p * mem 52 p = N - N % mem 52 p := by rw [Int.mul_comm]; omega
  have hE : enV m v (N / mem 52 p) = if N - N % mem 52 p + mem 52 p < mem 47 p then N - N % mem 52 p + mem 52 p else mem 47 p := by
    unfold enV
    rw [e7, ee, Int.add_mul, Int.one_mul, hS]
  obtain ⟨E, hE0⟩ : ∃ y : Int, y = enV m v (N / mem 52 p) := ⟨_, rfl⟩
  obtain ⟨S, hS0⟩ : ∃ y : Int, y = N - N % mem 52 p := ⟨_, rfl⟩
  rw [hS, ← hS0, ← hE0] at hf
  rw [← hE0, ← hS0] at hE
  rw [← hS0] at hb
  have hEb : N < E ∧ E ≤ mem 47 p ∧ E ≤ S + mem 52 p ∧ (E < mem 47 p → E = S + mem 52 p) := by rw [hE]; split <;> omega
  have hone : ∀ j : Int, 0 ≤ j → j < 200 → adI (m 13) (N * 5 + c0) (mem 66 s) j = oneA (5 * N + c0) (mem 66 s) j := fun j u1 u2 => by
    unfold adI oneA
    rw [h13 j u1 u2, Int.mul_comm N 5, Int.zero_add]
  have k1 := fcS_fl (mem := mem) (m := m) (v := v) (p := p) (nm := nmS m (adI (m 13) (N * 5 + c0) (mem 66 s)) v) (cl := clS m (adI (m 13) (N * 5 + c0) (mem 66 s)) v) (ad := oneA (5 * N + c0) (mem 66 s)) S hb.2.1 (E - S).toNat (fun n w1 w2 => hP.hls_ad h ⟨by omega, by omega⟩ (fun i c u1 u2 u3 u4 u5 => hone _ (by have := blk_st (m := mem 52 p) (n := n) (by omega) (by omega); omega) (by omega)))
  have k2 := fcS_fl (mem := mem) (m := m) (v := v) (p := p) (nm := nmS m (m 13) v) (cl := clS m (m 13) v) (ad := fun _ => 0) S hb.2.1 (E - S).toNat (fun n w1 w2 => hP.hls_ad h ⟨by omega, by omega⟩ (fun i c u1 u2 u3 u4 u5 => h13 _ (by have := blk_st (m := mem 52 p) (n := n) (by omega) (by omega); omega) (by omega)))
  rw [show S + (((E - S).toNat : Nat) : Int) = E by omega] at k1 k2
  rw [k1, k2] at hf
  have k3 := flN_to (mem := mem) (p := p) (ad := oneA (5 * N + c0) (mem 66 s)) (ad' := fun _ => 0) (a := 0) (b := S) ⟨by omega, hb.2.1⟩ (fun n w1 w2 => hP.hldA_cg ⟨w1, by omega⟩ (fun i c u1 u2 u3 u4 u5 => oneA_no (by omega)))
  have k4 := flN_to (mem := mem) (p := p) (ad := oneA (5 * N + c0) (mem 66 s)) (ad' := fun _ => 0) (a := E) (b := mem 47 p) ⟨by omega, hEb.2.1⟩ (fun n w1 w2 => hP.hldA_cg ⟨by omega, w2⟩ (fun i c u1 u2 u3 u4 u5 => oneA_no (fun u => by
    have y := blk_st (m := mem 52 p) (n := n) (by omega) (by omega)
    have hi : i = N := by omega
    have z := blk_mod (s := n - n % mem 52 p) (n := N) (m := mem 52 p) (by omega) y.1 (by omega) (by omega)
    omega)))
  have z1 : flN mem p (oneA (5 * N + c0) (mem 66 s)) (0 : Int).toNat = 0 := rfl
  have z2 : flN mem p (fun _ => 0) (0 : Int).toNat = 0 := rfl
  rw [z1, z2] at k3
  omega
theorem unN_s {k : Int} (h : 0 ≤ k) : unN mem p q (k + 1).toNat = unN mem p q k.toNat + (if mem 63 k = p ∧ cntS mem k q ∧ flN mem p (oneA (5 * mem 64 k + slotV (mem 65 k)) (mem 66 k)) (mem 47 p).toNat = 0 then 1 else 0) := by
  rw [show (k + 1).toNat = k.toNat + 1 by omega, unN, show ((k.toNat : Nat) : Int) = k by omega]
theorem INV.slpk (hI : INV kd ln mem sz tg) (h0 : 0 ≤ i) (h1 : i < mem 35 45) (hsl : sl = mem (mem 30 1) i) : kd sl = 10 ∧ 101 ≤ sl ∧ (mem sl 0 = mem 63 i ∧ mem sl 1 = mem 64 i ∧ mem sl 2 = mem 65 i ∧ mem sl 3 = mem 66 i ∧ mem sl 4 = mem 67 i ∧ mem sl 5 = mem 68 i) ∧ InI (mem 63 i) ∧ InI (mem 67 i) ∧ InI (mem 68 i) := by
  have h := hI.slp (s := i) h0 h1
  have hn := hI.num.2.1
  have hg := hI.pgs.2.1
  rw [← hsl] at h
  obtain ⟨⟨h2, h3, -⟩, h4, x1, x2, x3, x4, x5, x6, x7, x8, x9, x10, x11, x12, x13⟩ := h
  exact ⟨h2, h3, h4, by omega, by omega, by omega⟩
theorem PAGV.slx (hP : PAGV kd ln mem sz tg p v) (hs : SL mem s) (hsp : mem 63 s = p) (e1 : m sl 1 = mem 64 s) (e2 : m sl 2 = mem 65 s) (e3 : m sl 3 = mem 66 s) (e4 : m v 2 = mem 47 p) : 0 ≤ m sl 1 ∧ m sl 1 < m v 2 ∧ (m sl 2 = 9 ∨ (0 ≤ m sl 2 ∧ m sl 2 ≤ 4)) ∧ -1000000 ≤ m sl 3 ∧ m sl 3 ≤ 1000000 := by
  obtain ⟨x1, x2, x3, x4, x5, x6, x7, x8, x9, x10, x11, x12, x13⟩ := hs
  have hp := hP.2.2
  rw [hsp] at x4 x6
  have y := hp.2.2.2.2.2.2.2.2.2.1
  rw [e1, e2, e3, e4]
  exact ⟨x3, x4, x6.imp id (fun u => ⟨u.1, by omega⟩), x8, x9⟩
theorem PAGV.f3 (hP : PAGV kd ln mem sz tg p v) : (kd (mem v 11) = 20 ∧ ln (mem v 11) = 40 ∧ 35 ≤ mem v 11) ∧ (kd (mem v 12) = 20 ∧ ln (mem v 12) = 40 ∧ 35 ≤ mem v 12) ∧ kd (mem v 13) = 21 ∧ ln (mem v 13) = 40 ∧ 35 ≤ mem v 13 := by
  have a := hP.row 11 (by decide)
  have b := hP.row 12 (by decide)
  have c := hP.row 13 (by decide)
  exact ⟨⟨a.1, a.2.1, by omega⟩, ⟨b.1, b.2.1, by omega⟩, c.1, c.2.1, by omega⟩
theorem flN_bdx (ad : Int → Int) : ∀ k : Nat, 0 ≤ flN mem p ad k ∧ flN mem p ad k ≤ k := by
  intro k
  induction k with
  | zero => simp [flN]
  | succ k ih => unfold flN; split <;> omega
end
set_option maxHeartbeats 4000000 in
set_option maxRecDepth 100000 in
theorem c_X11_unseen {l : Launch} {g : GP} (hG : GH g) {kd : Int → Nat} {ln : Int → Int} {mem : Int → Int → Int} {sz : Nat} (hK : HK kd ln) (hR : HR mem) (p q : Int) (tg : Int → Int) (hI : INV kd ln mem sz tg) (h_p : InI p) (h_q : InI q) : MT l g yX11_unseen cX11_unseen 8 (some .int) 7 0 0 [(2, 3), (0, p), (0, q)] kd ln mem sz (pMR 0 (fun v mem' => HR mem' ∧ (SCF mem mem' ∧ ((isPg mem p ∧ isKn mem q) → v = unN mem p q (mem 35 45).toNat) ∧ (¬ (isPg mem p ∧ isKn mem q) → v = -1))) kd ln sz) := by
  refine MT_of hG (by decide +kernel) (Nat.le_of_ble_eq_true rfl) (fun z hF hr hn => ?_)
  obtain ⟨⟨q0, q1, q2, q3, q4, q5⟩, u0, u2, u46, u89, usz⟩ := hI.num
  have n29 : 0 ≤ mem 35 33 ∧ mem 35 33 ≤ 12 := ⟨hI.pgs.1, hI.pgs.2.1⟩
  have n30 : 0 ≤ mem 35 45 ∧ mem 35 45 ≤ 60 := ⟨hI.sls.1, hI.sls.2.1⟩
  obtain ⟨e29, k29, r29, b29, c29⟩ := hI.g29.ls
  obtain ⟨e30, k30, r30, b30, c30⟩ := hI.g30.ls
  refine jblk hF [(.aload_n 0, 1), (.iload_n 1, 1)] (by decide +kernel) (pc' := 2) (lo' := [(0, (2, 3)), (1, (0, p)), (2, (0, q))]) (st' := [(0, p), (2, 3)]) rfl ?_
  refine jcallV hF (c_X11_pageAt hG hK hR p (by exact tg) (by assumption) (by omega)) MW_X11_pageAt 12 (by decide) (by exact hK.k3) wd_851 wd_853 wd_p24 (by decide +kernel) [] rfl rfl (by decide) (Nat.le_of_ble_eq_true rfl) (by decide) (kR (fun v_1 h_2 => ?_))
  have hv := h_2
  refine jblk hF [(.astore_n 3, 1), (.aload_n 3, 1)] (by decide +kernel) (pc' := 7) (lo' := [(3, (2, v_1)), (0, (2, 3)), (1, (0, p)), (2, (0, q))]) (st' := [(2, v_1)]) rfl ?_
  refine jnull hF (off := 11) 18 (by decide +kernel) (by decide) (fun h_3 => ?_) (fun h_3 => ?_)
  · have hng : ¬ (isPg mem p ∧ isKn mem q) := fun w => by first | omega | exact (hv.2 (by omega)).1 w.1
    refine jblk hF [(.iconst (-1), 1)] (by decide +kernel) (pc' := 19) (lo' := [(3, (2, v_1)), (0, (2, 3)), (1, (0, p)), (2, (0, q))]) (st' := [(0, (-1))]) rfl ?_
    refine jiret hF hr (by decide +kernel) ?_
    exact lMR ⟨hR, by exact ⟨SCF.rf, fun w => absurd w hng, fun _ => rfl⟩⟩
  · obtain ⟨hpg, hpo⟩ := hv.1 (by omega)
    obtain ⟨hkv, hv1, hv2, hv3, hv4, hv5⟩ := hpo.at
    have hn2 := hpo.nm.2.2.1
    refine jblk hF [(.aload_n 0, 1), (.iload_n 2, 1)] (by decide +kernel) (pc' := 12) (lo' := [(3, (2, v_1)), (0, (2, 3)), (1, (0, p)), (2, (0, q))]) (st' := [(0, q), (2, 3)]) rfl ?_
    refine jcallV hF (c_X11_isDay hG hK hR q (by exact tg) (by assumption) (by omega)) MW_X11_isDay 12 (by decide) (by exact hK.k3) wd_398 wd_400 wd_p1 (by decide +kernel) [] rfl rfl (by decide) (Nat.le_of_ble_eq_true rfl) (by decide) (kB (fun h_4 => ?_) (fun h_4 => ?_))
    · refine jif_ne hF (off := 5) 20 (by decide +kernel) (by decide) (by decide) (fun _ => ?_) (fun h => absurd h (by decide))
      refine jblk hF [(.aload_n 0, 1)] (by decide +kernel) (pc' := 21) (lo' := [(3, (2, v_1)), (0, (2, 3)), (1, (0, p)), (2, (0, q))]) (st' := [(2, 3)]) rfl ?_
      refine jget hF 12 9 2 9 rfl (by decide) (by decide) rfl wd_335 (by decide +kernel) (by exact hK.k3) ?_
      rw [HR.r3_9 hR]
      refine jcallV hF (c_X2_begin hG hK hR) MW_X2_begin 3 (by decide) (by exact hK.k10) wd_803 wd_804 wd_805 (by decide +kernel) [] rfl rfl (by decide) (Nat.le_of_ble_eq_true rfl) (by decide) (kMV (fun m_6 h_7 => ?_))
      obtain ⟨hR_m_6, h_7⟩ := h_7
      have hbg := h_7
      have hf0 : SCF mem m_6 := fun a j _ _ q3 => by rw [hbg]; exact if_neg (fun u => q3 u.1)
      have hz0 : ∀ j : Int, 0 ≤ j → j < 200 → m_6 13 j = 0 := fun j j1 j2 => by rw [hbg]; exact if_pos ⟨rfl, j1, j2⟩
      have hp0m := hpo.scf hf0 hI
      refine jblk hF [(.aload_n 0, 1)] (by decide +kernel) (pc' := 28) (lo' := [(3, (2, v_1)), (0, (2, 3)), (1, (0, p)), (2, (0, q))]) (st' := [(2, 3)]) rfl ?_
      refine jget hF 12 9 2 9 rfl (by decide) (by decide) rfl wd_335 (by decide +kernel) (by exact hK.k3) ?_
      rw [HR.r3_9 hR_m_6]
      refine jblk hF [(.aload_n 3, 1)] (by decide +kernel) (pc' := 32) (lo' := [(3, (2, v_1)), (0, (2, 3)), (1, (0, p)), (2, (0, q))]) (st' := [(2, v_1), (2, 10)]) rfl ?_
      refine jcallV hF (c_X2_make hG hK hR_m_6 v_1 (by exact hkv) (by omega) (by exact hp0m.pb) (by exact hp0m.f3.2.2) (by omega)) MW_X2_make 3 (by decide) (by exact hK.k10) wd_810 wd_811 wd_812 (by decide +kernel) [] rfl rfl (by decide) (Nat.le_of_ble_eq_true rfl) (by decide) (kMV (fun m_8 h_9 => ?_))
      obtain ⟨hR_m_8, h_9⟩ := h_9
      have hfp := h_9
      have hf1 : SCF mem m_8 := fun a j q1 q2 q3 => (hfp.1 a j q1 q2).trans (hf0 a j q1 q2 q3)
      have hp1m := hpo.scf hf1 hI
      have hn21 : m_8 v_1 2 = mem 47 p := (hf1 v_1 2 (by omega) (by omega) (by omega)).trans hn2
      have h47 : 2 ≤ mem 47 p ∧ mem 47 p ≤ 40 := by exact ⟨hpo.2.2.2.2.2.2.1, hpo.2.2.2.2.2.2.2.1⟩
      refine jblk hF [(.aload_n 0, 1)] (by decide +kernel) (pc' := 36) (lo' := [(3, (2, v_1)), (0, (2, 3)), (1, (0, p)), (2, (0, q))]) (st' := [(2, 3)]) rfl ?_
      refine jget hF 12 9 2 9 rfl (by decide) (by decide) rfl wd_335 (by decide +kernel) (by exact hK.k3) ?_
      rw [HR.r3_9 hR_m_8]
      refine jblk hF [(.aload_n 3, 1), (.iconst 0, 1), (.aload_n 3, 1)] (by decide +kernel) (pc' := 42) (lo' := [(3, (2, v_1)), (0, (2, 3)), (1, (0, p)), (2, (0, q))]) (st' := [(2, v_1), (0, 0), (2, v_1), (2, 10)]) rfl ?_
      refine jget hF 4 2 0 2 rfl (by decide) (by decide) rfl wd_697 (by decide +kernel) (by first | exact hok | exact hkv | assumption | omega) ?_
      refine jcallV hF (c_X2_failsFrom hG hK hR_m_8 v_1 0 (m_8 v_1 2) (by exact hkv) (by omega) (by exact hp1m.pb) (by omega) (by omega) (by exact ⟨hp1m.f3.1.1, hp1m.f3.1.2.1⟩) (by exact ⟨hp1m.f3.2.1.1, hp1m.f3.2.1.2.1⟩) (by exact ⟨hp1m.f3.2.2.1, hp1m.f3.2.2.2.1⟩) (by exact hp1m.ci)) MW_X2_failsFrom 3 (by decide) (by exact hK.k10) wd_964 wd_965 wd_966 (by decide +kernel) [] rfl rfl (by decide) (Nat.le_of_ble_eq_true rfl) (by decide) (kV ?_)
      rw [hn21, Int.sub_zero, hpo.fl0 hf0 hz0 hfp]
      have hbz := flN_bdx (mem := mem) (p := p) (fun _ => 0) (mem 47 p).toNat
      refine jblk hF [(.istore 4, 2), (.iconst 0, 1), (.istore 5, 2), (.iconst 0, 1), (.istore 6, 2)] (by decide +kernel) (pc' := 56) (lo' := [(6, (0, 0)), (5, (0, 0)), (4, (0, flN mem p (fun _ => 0) (mem 47 p).toNat)), (3, (2, v_1)), (0, (2, 3)), (1, (0, p)), (2, (0, q))]) (st' := []) rfl ?_
      have L_11 : ∀ (fu_12 : Nat) (c : Int) (i : Int) (m : Int → Int → Int), (HR m) → (0 ≤ i ∧ i ≤ mem 35 45) → (c = unN mem p q i.toNat) → (SCF mem m) → (∀ j : Int, 0 ≤ j → j < 200 → m 13 j = 0) → (MBL m m (m (m v_1 13)) (m 13) (m v_1 4) (m v_1 7) 0 (m v_1 2)) →  (mem 35 45 - i).toNat < fu_12 → J z g 8 0 0 (QM z g 0 0 (pMR 0 (fun v mem' => HR mem' ∧ (SCF mem mem' ∧ ((isPg mem p ∧ isKn mem q) → v = unN mem p q (mem 35 45).toNat) ∧ (¬ (isPg mem p ∧ isKn mem q) → v = -1))) kd ln sz)) 56 [(0, (2, 3)), (1, (0, p)), (2, (0, q)), (3, (2, v_1)), (4, (0, flN mem p (fun _ => 0) (mem 47 p).toNat)), (5, (0, c)), (6, (0, i))] [] kd ln m sz := by
        intro fu_12
        induction fu_12 with
        | zero => intro c i m _ _ _ _ _ _ hm; omega
        | succ fu_12 ih_10 =>
          intro c i m hR_m hi hc hf hz hFS hm
          clear hv hn21 e29 k29 r29 b29 c29 n29 u2 u46 u89 q0 q1 q2 q3 q4 q5
          have hcb := unN_bd mem p q i.toNat
          have hpm := hpo.scf hf hI
          have f301 : m 30 1 = mem 30 1 := hf 30 1 (by decide) (by decide) (by decide)
          have e30m : m 30 2 = mem 35 45 := (hf 30 2 (by decide) (by decide) (by decide)).trans e30
          have r30m : kd (m 30 1) = 23 := by rw [f301]; exact r30
          have c30m : m 30 2 ≤ ln (m 30 1) := by rw [f301, e30m]; exact b30
          have o30 : mem 30 1 = 1 ∨ 101 ≤ mem 30 1 := hI.g30.2.1.imp id (fun w => w.1)
          have w30 : m (m 30 1) i = mem (mem 30 1) i := by rw [f301]; exact hf _ _ (by omega) (by omega) (by omega)
          clear o30
          refine jblk hF [(.iload 6, 2), (.aload_n 0, 1)] (by decide +kernel) (pc' := 59) (lo' := [(0, (2, 3)), (1, (0, p)), (2, (0, q)), (3, (2, v_1)), (4, (0, flN mem p (fun _ => 0) (mem 47 p).toNat)), (5, (0, c)), (6, (0, i))]) (st' := [(2, 3), (0, i)]) rfl ?_
          refine jget hF 12 15 2 15 rfl (by decide) (by decide) rfl wd_341 (by decide +kernel) (by exact hK.k3) ?_
          rw [HR.r3_15 hR_m]
          refine jcallV hF (c_Jx4a65c_size_8abf5 hG 30 (by first | assumption | omega)) MW_Jx4a65c_size_8abf5 0 (by decide) (by exact hK.k30) wd_410 wd_411 wd_412 (by decide +kernel) [(0, i)] rfl rfl (by decide) (Nat.le_of_ble_eq_true rfl) (by decide) (kV ?_)
          rw [e30m]
          refine jicmp_ge hF (off := 60) 125 (by decide +kernel) (by decide) (by omega) (by omega) (fun h_13 => ?_) (fun h_13 => ?_)
          · refine jblk hF [(.iload 5, 2)] (by decide +kernel) (pc' := 127) (lo' := [(0, (2, 3)), (1, (0, p)), (2, (0, q)), (3, (2, v_1)), (4, (0, flN mem p (fun _ => 0) (mem 47 p).toNat)), (5, (0, c)), (6, (0, i))]) (st' := [(0, c)]) rfl ?_
            refine jiret hF hr (by decide +kernel) ?_
            exact lMR ⟨hR_m, by exact ⟨hf, fun _ => by rw [hc, show i = mem 35 45 by omega], fun w => absurd ⟨hpg, by omega⟩ w⟩⟩
          · refine jblk hF [(.aload_n 0, 1)] (by decide +kernel) (pc' := 69) (lo' := [(0, (2, 3)), (1, (0, p)), (2, (0, q)), (3, (2, v_1)), (4, (0, flN mem p (fun _ => 0) (mem 47 p).toNat)), (5, (0, c)), (6, (0, i))]) (st' := [(2, 3)]) rfl ?_
            refine jget hF 12 15 2 15 rfl (by decide) (by decide) rfl wd_341 (by decide +kernel) (by exact hK.k3) ?_
            rw [HR.r3_15 hR_m]
            refine jblk hF [(.iload 6, 2)] (by decide +kernel) (pc' := 74) (lo' := [(0, (2, 3)), (1, (0, p)), (2, (0, q)), (3, (2, v_1)), (4, (0, flN mem p (fun _ => 0) (mem 47 p).toNat)), (5, (0, c)), (6, (0, i))]) (st' := [(0, i), (2, 30)]) rfl ?_
            refine jcallV hF (c_Jx4a65c_get_915e3 hG 30 i (by first | assumption | omega) (by first | assumption | omega) (by omega)) MW_Jx4a65c_get_915e3 0 (by decide) (by exact hK.k30) wd_498 wd_499 wd_500 (by decide +kernel) [] rfl rfl (by decide) (Nat.le_of_ble_eq_true rfl) (by decide) (kV ?_)
            rw [w30]
            obtain ⟨sl, hsl⟩ : ∃ y : Int, y = mem (mem 30 1) i := ⟨_, rfl⟩
            rw [← hsl]
            obtain ⟨hok, hq35, ⟨g1, g2, g3, g4, g5, g6⟩, in63, in67, in68⟩ := hI.slpk hi.1 (by omega) hsl
            clear hsl
            have f0 : m sl 0 = mem 63 i := (hf sl 0 (by omega) (by omega) (by omega)).trans g1
            have f4 : m sl 4 = mem 67 i := (hf sl 4 (by omega) (by omega) (by omega)).trans g5
            have f5 : m sl 5 = mem 68 i := (hf sl 5 (by omega) (by omega) (by omega)).trans g6
            refine jcast hF 9 (by decide) wd_895 (by decide +kernel) (by first | exact hok | exact hkv | assumption | omega) ?_
            refine jblk hF [(.astore 7, 2), (.aload 7, 2)] (by decide +kernel) (pc' := 84) (lo' := [(7, (2, sl)), (0, (2, 3)), (1, (0, p)), (2, (0, q)), (3, (2, v_1)), (4, (0, flN mem p (fun _ => 0) (mem 47 p).toNat)), (5, (0, c)), (6, (0, i))]) (st' := [(2, sl)]) rfl ?_
            refine jget hF 9 0 0 0 rfl (by decide) (by decide) rfl wd_902 (by decide +kernel) (by first | exact hok | exact hkv | assumption | omega) ?_
            refine jblk hF [(.iload_n 1, 1)] (by decide +kernel) (pc' := 88) (lo' := [(7, (2, sl)), (0, (2, 3)), (1, (0, p)), (2, (0, q)), (3, (2, v_1)), (4, (0, flN mem p (fun _ => 0) (mem 47 p).toNat)), (5, (0, c)), (6, (0, i))]) (st' := [(0, p), (0, m sl 0)]) rfl ?_
            refine jicmp_ne hF (off := 31) 119 (by decide +kernel) (by decide) (by omega) (by omega) (fun h_14 => ?_) (fun h_14 => ?_)
            · have hcn : unN mem p q (i + 1).toNat = unN mem p q i.toNat + (if mem 63 i = p ∧ cntS mem i q ∧ flN mem p (oneA (5 * mem 64 i + slotV (mem 65 i)) (mem 66 i)) (mem 47 p).toNat = 0 then 1 else 0) := unN_s (by omega)
              refine jblk hF [(.iinc 6 1, 3)] (by decide +kernel) (pc' := 122) (lo' := [(6, (0, i + 1)), (7, (2, sl)), (0, (2, 3)), (1, (0, p)), (2, (0, q)), (3, (2, v_1)), (4, (0, flN mem p (fun _ => 0) (mem 47 p).toNat)), (5, (0, c))]) (st' := []) rfl ?_
              refine jgoto hF (off := (-66)) 56 (by decide +kernel) (by decide) ?_
              refine jsub [2, 3, 4, 5, 6, 7, 0] rfl ?_
              refine ih_10 c (i + 1) m ?_ ?_ ?_ ?_ ?_ ?_ ?_
              · exact hR_m
              · omega
              · (rw [hcn, hc]; first | (rw [if_pos ⟨by omega, ⟨by omega, by omega⟩, by omega⟩]; done) | (rw [if_neg (fun u => by omega)]; omega))
              · first | exact hf | exact hfn
              · first | exact hz | exact hzn
              · first | exact hFS | exact hFSn
              · omega
            · refine jblk hF [(.aload 7, 2), (.iload_n 2, 1)] (by decide +kernel) (pc' := 94) (lo' := [(7, (2, sl)), (0, (2, 3)), (1, (0, p)), (2, (0, q)), (3, (2, v_1)), (4, (0, flN mem p (fun _ => 0) (mem 47 p).toNat)), (5, (0, c)), (6, (0, i))]) (st' := [(0, q), (2, sl)]) rfl ?_
              refine jcallV hF (c_X8_isKnownIn hG sl q (by first | assumption | omega) (by exact ⟨by rw [f5]; exact in68, by rw [f4]; exact in67⟩) (by omega)) MW_X8_isKnownIn 9 (by decide) (by first | exact hok | exact hkv | assumption | omega) wd_944 wd_945 wd_946 (by decide +kernel) [] rfl rfl (by decide) (Nat.le_of_ble_eq_true rfl) (by decide) (kB (fun h_15 => ?_) (fun h_15 => ?_))
              · refine jif_eq hF (off := 22) 119 (by decide +kernel) (by decide) (by decide) (fun h => absurd h (by decide)) (fun _ => ?_)
                have hi63 : mem 63 i = p := by omega
                have hi1 : i < mem 35 45 := by omega
                have f1 : m sl 1 = mem 64 i := (hf sl 1 (by omega) (by omega) (by omega)).trans g2
                have f2 : m sl 2 = mem 65 i := (hf sl 2 (by omega) (by omega) (by omega)).trans g3
                have f3 : m sl 3 = mem 66 i := (hf sl 3 (by omega) (by omega) (by omega)).trans g4
                refine jblk hF [(.iload 4, 2), (.aload_n 0, 1)] (by decide +kernel) (pc' := 103) (lo' := [(7, (2, sl)), (0, (2, 3)), (1, (0, p)), (2, (0, q)), (3, (2, v_1)), (4, (0, flN mem p (fun _ => 0) (mem 47 p).toNat)), (5, (0, c)), (6, (0, i))]) (st' := [(2, 3), (0, flN mem p (fun _ => 0) (mem 47 p).toNat)]) rfl ?_
                refine jget hF 12 9 2 9 rfl (by decide) (by decide) rfl wd_335 (by decide +kernel) (by exact hK.k3) ?_
                rw [HR.r3_9 hR_m]
                refine jblk hF [(.aload_n 3, 1), (.aload 7, 2)] (by decide +kernel) (pc' := 109) (lo' := [(7, (2, sl)), (0, (2, 3)), (1, (0, p)), (2, (0, q)), (3, (2, v_1)), (4, (0, flN mem p (fun _ => 0) (mem 47 p).toNat)), (5, (0, c)), (6, (0, i))]) (st' := [(2, sl), (2, v_1), (2, 10), (0, flN mem p (fun _ => 0) (mem 47 p).toNat)]) rfl ?_
                refine jcallV hF (c_X2_failsMoreBy hG hK hR_m v_1 sl (by exact hkv) (by omega) (by exact hpm.pb) (by omega) (by exact hpm.f3.1) (by exact hpm.f3.2.1) (by exact hpm.f3.2.2) (by exact hpm.ci) (by exact hok) (by omega) (by exact hpo.slx (hI.slp hi.1 hi1).2.2 hi63 f1 f2 f3 ((hf v_1 2 (by omega) (by omega) (by omega)).trans hn2)) (by exact hFS)) MW_X2_failsMoreBy 3 (by decide) (by exact hK.k10) wd_1027 wd_1028 wd_1029 (by decide +kernel) [(0, flN mem p (fun _ => 0) (mem 47 p).toNat)] rfl rfl (by decide) (Nat.le_of_ble_eq_true rfl) (by decide) (kMR (fun v_19 m_17 h_18 => ?_))
                obtain ⟨hR_m_17, h_18⟩ := h_18
                have hfm := h_18
                have hone := hpo.fone hf hz (hI.slp hi.1 hi1).2.2 hi63 f1 f2 f3 hfm
                have hbo := flN_bdx (mem := mem) (p := p) (oneA (5 * mem 64 i + slotV (mem 65 i)) (mem 66 i)) (mem 47 p).toNat
                have hfn : SCF mem m_17 := fun a j q1 q2 q3 => (hfm.2.1 a j q1 q2).trans (hf a j q1 q2 q3)
                have hzn : ∀ j : Int, 0 ≤ j → j < 200 → m_17 13 j = 0 := fun j j1 j2 => (hfm.2.1 13 j (by decide) (by decide)).trans (hz j j1 j2)
                have hFSn := FPG.mbl hfm.2 (by omega) hpm.f3.2.2.2.2
                refine jblk hF [(.iadd, 1)] (by decide +kernel) (pc' := 113) (lo' := [(7, (2, sl)), (0, (2, 3)), (1, (0, p)), (2, (0, q)), (3, (2, v_1)), (4, (0, flN mem p (fun _ => 0) (mem 47 p).toNat)), (5, (0, c)), (6, (0, i))]) (st' := [(0, (flN mem p (fun _ => 0) (mem 47 p).toNat) + v_19)]) rfl ?_
                refine jif_ne hF (off := 6) 119 (by decide +kernel) (by decide) (by omega) (fun h_20 => ?_) (fun h_20 => ?_)
                · have hcn : unN mem p q (i + 1).toNat = unN mem p q i.toNat + (if mem 63 i = p ∧ cntS mem i q ∧ flN mem p (oneA (5 * mem 64 i + slotV (mem 65 i)) (mem 66 i)) (mem 47 p).toNat = 0 then 1 else 0) := unN_s (by omega)
                  refine jblk hF [(.iinc 6 1, 3)] (by decide +kernel) (pc' := 122) (lo' := [(6, (0, i + 1)), (7, (2, sl)), (0, (2, 3)), (1, (0, p)), (2, (0, q)), (3, (2, v_1)), (4, (0, flN mem p (fun _ => 0) (mem 47 p).toNat)), (5, (0, c))]) (st' := []) rfl ?_
                  refine jgoto hF (off := (-66)) 56 (by decide +kernel) (by decide) ?_
                  refine jsub [2, 3, 4, 5, 6, 7, 0] rfl ?_
                  refine ih_10 c (i + 1) m_17 ?_ ?_ ?_ ?_ ?_ ?_ ?_
                  · exact hR_m_17
                  · omega
                  · (rw [hcn, hc]; first | (rw [if_pos ⟨by omega, ⟨by omega, by omega⟩, by omega⟩]; done) | (rw [if_neg (fun u => by omega)]; omega))
                  · first | exact hf | exact hfn
                  · first | exact hz | exact hzn
                  · first | exact hFS | exact hFSn
                  · omega
                · refine jblk hF [(.iinc 5 1, 3)] (by decide +kernel) (pc' := 119) (lo' := [(5, (0, c + 1)), (7, (2, sl)), (0, (2, 3)), (1, (0, p)), (2, (0, q)), (3, (2, v_1)), (4, (0, flN mem p (fun _ => 0) (mem 47 p).toNat)), (6, (0, i))]) (st' := []) rfl ?_
                  have hcn : unN mem p q (i + 1).toNat = unN mem p q i.toNat + (if mem 63 i = p ∧ cntS mem i q ∧ flN mem p (oneA (5 * mem 64 i + slotV (mem 65 i)) (mem 66 i)) (mem 47 p).toNat = 0 then 1 else 0) := unN_s (by omega)
                  refine jblk hF [(.iinc 6 1, 3)] (by decide +kernel) (pc' := 122) (lo' := [(6, (0, i + 1)), (5, (0, c + 1)), (7, (2, sl)), (0, (2, 3)), (1, (0, p)), (2, (0, q)), (3, (2, v_1)), (4, (0, flN mem p (fun _ => 0) (mem 47 p).toNat))]) (st' := []) rfl ?_
                  refine jgoto hF (off := (-66)) 56 (by decide +kernel) (by decide) ?_
                  refine jsub [3, 4, 5, 6, 7, 1, 0] rfl ?_
                  refine ih_10 (c + 1) (i + 1) m_17 ?_ ?_ ?_ ?_ ?_ ?_ ?_
                  · exact hR_m_17
                  · omega
                  · (rw [hcn, hc]; first | (rw [if_pos ⟨by omega, ⟨by omega, by omega⟩, by omega⟩]; done) | (rw [if_neg (fun u => by omega)]; omega))
                  · first | exact hf | exact hfn
                  · first | exact hz | exact hzn
                  · first | exact hFS | exact hFSn
                  · omega
              · refine jif_eq hF (off := 22) 119 (by decide +kernel) (by decide) (by decide) (fun _ => ?_) (fun h => absurd h (by decide))
                have hcn : unN mem p q (i + 1).toNat = unN mem p q i.toNat + (if mem 63 i = p ∧ cntS mem i q ∧ flN mem p (oneA (5 * mem 64 i + slotV (mem 65 i)) (mem 66 i)) (mem 47 p).toNat = 0 then 1 else 0) := unN_s (by omega)
                refine jblk hF [(.iinc 6 1, 3)] (by decide +kernel) (pc' := 122) (lo' := [(6, (0, i + 1)), (7, (2, sl)), (0, (2, 3)), (1, (0, p)), (2, (0, q)), (3, (2, v_1)), (4, (0, flN mem p (fun _ => 0) (mem 47 p).toNat)), (5, (0, c))]) (st' := []) rfl ?_
                refine jgoto hF (off := (-66)) 56 (by decide +kernel) (by decide) ?_
                refine jsub [2, 3, 4, 5, 6, 7, 0] rfl ?_
                refine ih_10 c (i + 1) m ?_ ?_ ?_ ?_ ?_ ?_ ?_
                · exact hR_m
                · omega
                · (rw [hcn, hc]; first | (rw [if_pos ⟨by omega, ⟨by omega, by omega⟩, by omega⟩]; done) | (rw [if_neg (fun u => by omega)]; omega))
                · first | exact hf | exact hfn
                · first | exact hz | exact hzn
                · first | exact hFS | exact hFSn
                · omega
      refine jsub [4, 5, 6, 3, 2, 1, 0] rfl ?_
      refine L_11 _ 0 0 m_8 ?_ ?_ ?_ ?_ ?_ ?_ (Nat.lt_succ_self _)
      · exact hR_m_8
      · omega
      · rfl
      · exact hf1
      · exact fun j j1 j2 => (hfp.1 13 j (by decide) (by decide)).trans (hz0 j j1 j2)
      · exact FPG.mbl hfp (by omega) hp0m.f3.2.2.2.2
    · refine jif_ne hF (off := 5) 20 (by decide +kernel) (by decide) (by decide) (fun h => absurd h (by decide)) (fun _ => ?_)
      have hng : ¬ (isPg mem p ∧ isKn mem q) := fun w => by first | omega | exact (hv.2 (by omega)).1 w.1
      refine jblk hF [(.iconst (-1), 1)] (by decide +kernel) (pc' := 19) (lo' := [(3, (2, v_1)), (0, (2, 3)), (1, (0, p)), (2, (0, q))]) (st' := [(0, (-1))]) rfl ?_
      refine jiret hF hr (by decide +kernel) ?_
      exact lMR ⟨hR, by exact ⟨SCF.rf, fun w => absurd w hng, fun _ => rfl⟩⟩
end
