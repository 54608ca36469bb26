section
section
variable {kd : Int → Nat} {ln : Int → Int} {mem m mm : Int → Int → Int} {sz : Nat} {tg : Int → Int} {p q v b : Int} {S : ST}
/-- only figures and search have changed -/
def SCE (mem mm : Int → Int → Int) : Prop := ∀ a j : Int, a ≠ 11 → a ≠ 12 → a ≠ 13 → ¬ (15 ≤ a ∧ a ≤ 21) → ¬ (a = 14 ∧ 7 ≤ j ∧ j ≤ 10) → mm a j = mem a j
theorem SCF.sce (h : SCF mem mm) : SCE mem mm := fun a j q1 q2 q3 _ _ => h a j q1 q2 q3
theorem SCF.fxp (h : SCF mem m) (h2 : FXP m mm) : SCE mem mm := fun a j q1 q2 q3 q4 q5 => (h2 a j q4 q5).trans (h a j q1 q2 q3)
def LSC (mem : Int → Int → Int) (p b q : Int) : Prop := isPg mem p ∧ (0 ≤ b ∧ b ≤ (mem 47 p + mem 52 p - 1) / mem 52 p - 1) ∧ isKn mem q
theorem blks {L m : Int} (hm : 1 ≤ m) : (L + m - 1) / m = (L - 1) / m + 1 := by
  rw [show L + m - 1 = L - 1 + 1 * m by omega, Int.add_mul_ediv_right _ _ (by omega)]
def BKF (mem m : Int → Int → Int) (p v b : Int) : Prop := m v 4 = mem 49 p ∧ m v 7 = mem 52 p ∧ m v 2 = mem 47 p ∧ 0 ≤ b * mem 52 p ∧ b * mem 52 p < mem 47 p ∧ enV m v b = b * mem 52 p + blkN mem p b ∧ 1 ≤ blkN mem p b ∧ blkN mem p b ≤ mem 52 p ∧ b * mem 52 p + blkN mem p b ≤ mem 47 p ∧ mdV m v b = b * mem 52 p + (if mem 49 p + 1 < blkN mem p b then mem 49 p + 1 else blkN mem p b)
theorem PAGV.bkf (hP : PAGV kd ln mem sz tg p v) (h : SCF mem m) (hb : 0 ≤ b ∧ b < (mem 47 p - 1) / mem 52 p + 1) : BKF mem m p v b := by
  have hv := hP.at
  have hp := hP.2.2
  obtain ⟨g0, g1, g2, g3, g4, g5, g6, g7, g8⟩ := hP.nm
  have e4 : m v 4 = mem 49 p := (h v 4 (by omega) (by omega) (by omega)).trans g4
  have e7 : m v 7 = mem 52 p := (h v 7 (by omega) (by omega) (by omega)).trans g7
  have e2 : m v 2 = mem 47 p := (h v 2 (by omega) (by omega) (by omega)).trans g2
  have s := stV_in (L := mem 47 p) (m := mem 52 p) (b := b) (by omega) (by omega) hb
  have h5 : (b + 1) * mem 52 p = b * mem 52 p + mem 52 p := by rw [Int.add_mul, Int.one_mul]
  have hn : 1 ≤ blkN mem p b ∧ blkN mem p b ≤ mem 52 p ∧ b * mem 52 p + blkN mem p b ≤ mem 47 p := by unfold blkN; split <;> omega
  have he : enV m v b = b * mem 52 p + blkN mem p b := by
    unfold enV blkN
    rw [e7, e2, h5]
    (repeat' split) <;> omega
  refine ⟨e4, e7, e2, s.2.2.2.2.2, s.2.1, he, hn.1, hn.2.1, hn.2.2, ?_⟩
  unfold mdV
  rw [he, e7, e4]
  (repeat' split) <;> omega
theorem difm (hmd : MDP mem m p q) {x : Int} (h0 : 0 ≤ x - (mem 49 p + 1)) (h1 : x < mem 47 p) (ho : 1 ≤ mem 49 p) : difF (m 11) x (mem 49 p + 1) (mem 49 p + 1 + 1).toNat = difF (fun i => numQ mem p i q) x (mem 49 p + 1) (mem 49 p + 1 + 1).toNat :=
  difF_cg _ _ _ (fun i w1 w2 => hmd.1 i (by omega) (by omega))
theorem PAGV.exb (hP : PAGV kd ln mem sz tg p v) (hS : SLS mem) (hb0 : 0 ≤ b) (hmd : MDP mem m p q) (B : BKF mem m p v b) : ∀ x : Int, mdV m v b ≤ x → x < enV m v b → -4000000000 ≤ difF (m 11) x (m v 4 + 1) (m v 4 + 1 + 1).toNat ∧ difF (m 11) x (m v 4 + 1) (m v 4 + 1 + 1).toNat ≤ 4000000000 := by
  intro x u1 u2
  have hp := hP.2.2
  obtain ⟨e4, e7, e2, h0, h1, en, n1, n2, n3, md⟩ := B
  rw [md] at u1
  rw [en] at u2
  have hx : b * mem 52 p + mem 49 p + 1 ≤ x := by split at u1 <;> omega
  rw [e4, difm hmd (by omega) (by omega) (by omega)]
  exact numD_bd hp hS hb0 hx (by omega)
theorem PAGV.exq (hP : PAGV kd ln mem sz tg p v) (hmd : MDP mem m p q) (B : BKF mem m p v b) (hE : EXR m mm v b S) : TRS S (leastS mem p b q) := by
  have hp := hP.2.2
  obtain ⟨e4, e7, e2, h0, h1, en, n1, n2, n3, md⟩ := B
  obtain ⟨-, -, rs, f1, f2, f3, hr, hSe⟩ := hE
  obtain ⟨D, hD⟩ : ∃ y : Int, y = (if mem 49 p + 1 < blkN mem p b then mem 49 p + 1 else blkN mem p b) := ⟨_, rfl⟩
  rw [← hD] at md
  have hDb : 0 ≤ D ∧ D ≤ blkN mem p b ∧ D ≤ mem 49 p + 1 ∧ (D < blkN mem p b → D = mem 49 p + 1) := by rw [hD]; split <;> omega
  have k := seek_eq (N := blkN mem p b) (h := b * mem 52 p) (o := mem 49 p) 4 (Nat.le_refl _) rs (restF mem p b q) D (fun _ => 0) (fun _ => 0) (fun _ => 0) (5, 0, f1, f2, f3) (-1, 0, (fun _ => 0), (fun _ => 0), (fun _ => 0)) (fun j u1 u2 => by
    have e : restF mem p b q j = difF (fun i => numQ mem p i q) (b * mem 52 p + j) (mem 49 p + 1) (mem 49 p + 1 + 1).toNat := by unfold restF; exact if_neg (by omega)
    rw [e, hr _ (by rw [md]; omega) (by rw [en]; omega), e4]
    exact (difm hmd (by omega) (by omega) (by omega)).symm) hDb.2.1 (Or.inl ⟨rfl, rfl⟩)
  rw [hSe, en, md, e4]
  have e0 := seekF_i (N := blkN mem p b) (h := b * mem 52 p) (o := mem 49 p) (rs := restF mem p b q) (tl := fun _ => 0) (tc := fun _ => 0) (ta := fun _ => 0) (i := 0) (i' := D) (S := (-1, 0, (fun _ => 0), (fun _ => 0), (fun _ => 0))) (by
    have z := skip_z (rs := restF mem p b q) D.toNat (blkN mem p b - D).toNat 0 (fun j u1 u2 => by unfold restF; exact if_pos (by omega))
    rw [show D.toNat + (blkN mem p b - D).toNat = (blkN mem p b - 0).toNat by omega, show (0 : Int) + ((D.toNat : Nat) : Int) = D by omega] at z
    exact z) 4
  unfold leastS
  rw [e0]
  exact k
/-- what the search leaves of what is asked -/
def LSQ (mm : Int → Int → Int) (S : ST) : Prop := mm 14 9 = S.1 ∧ mm 14 10 = S.2.1 ∧ 0 ≤ S.1 ∧ S.1 ≤ 4 ∧ ∀ j : Int, 0 ≤ j → j < S.1 → mm 19 j = S.2.2.1 j ∧ mm 20 j = S.2.2.2.1 j ∧ mm 21 j = S.2.2.2.2 j
theorem TRS.yes {S' : ST} (h : TRS S S') (hS : SKP mm S) (h4 : S.1 ≤ 4) : S'.1 ≠ -1 ∧ LSQ mm S' := by
  rcases h with ⟨a1, a2⟩ | ⟨a1, a2, a3, a4, a5⟩
  · omega
  · obtain ⟨s1, s2, s3, s4, s5⟩ := hS
    exact ⟨by omega, by omega, by omega, by omega, by omega, fun j q1 q2 => by rw [s3, s4, s5]; exact a5 j q1 (by omega)⟩
theorem TRS.no {S' : ST} (h : TRS S S') (h4 : ¬ S.1 ≤ 4) : S'.1 = -1 := by
  rcases h with ⟨a1, a2⟩ | ⟨a1, a2, a3, a4, a5⟩
  · exact a2
  · omega
end
set_option maxHeartbeats 4000000 in
set_option maxRecDepth 100000 in
theorem c_X11_isExplained {l : Launch} {g : GP} (hG : GH g) {kd : Int → Nat} {ln : Int → Int} {mem : Int → Int → Int} {sz : Nat} (hK : HK kd ln) (hR : HR mem) (p b q : Int) (tg : Int → Int) (hI : INV kd ln mem sz tg) (h_p : InI p) (h_b : InI b) (h_q : InI q) : MT l g yX11_isExplained cX11_isExplained 5 (some .boolean) 11 0 0 [(2, 3), (0, p), (0, b), (0, q)] kd ln mem sz (pMB (fun c mem' => HR mem' ∧ (SCE mem mem' ∧ (c ↔ LSC mem p b q ∧ (leastS mem p b q).1 ≠ -1) ∧ (c → LSQ mem' (leastS mem p b q)))) kd ln sz) := by
  refine MT_of hG (by decide +kernel) (Nat.le_of_ble_eq_true rfl) (fun z hF hr hn => ?_)
  obtain ⟨⟨q0, q1, q2, q3, q4, q5⟩, u0, u2, u46, u89, usz⟩ := hI.num
  refine jblk hF [(.aload_n 0, 1), (.iload_n 1, 1), (.iload_n 3, 1)] (by decide +kernel) (pc' := 3) (lo' := [(0, (2, 3)), (1, (0, p)), (2, (0, b)), (3, (0, q))]) (st' := [(0, q), (0, p), (2, 3)]) rfl ?_
  refine jcallV hF (c_X11_madePage hG hK hR p q (by exact tg) (by assumption) (by omega) (by omega)) MW_X11_madePage 12 (by decide) (by exact hK.k3) wd_940 wd_942 wd_p27 (by decide +kernel) [] rfl rfl (by decide) (Nat.le_of_ble_eq_true rfl) (by decide) (kMR (fun v_3 m_1 h_2 => ?_))
  obtain ⟨hR_m_1, h_2⟩ := h_2
  have hw := h_2
  have hIm := hI.scf hw.1
  refine jblk hF [(.astore 4, 2), (.aload 4, 2)] (by decide +kernel) (pc' := 10) (lo' := [(4, (2, v_3)), (0, (2, 3)), (1, (0, p)), (2, (0, b)), (3, (0, q))]) (st' := [(2, v_3)]) rfl ?_
  refine jnull hF (off := 39) 49 (by decide +kernel) (by decide) (fun h_4 => ?_) (fun h_4 => ?_)
  · have hno : SCE mem m_1 ∧ ¬ (LSC mem p b q ∧ (leastS mem p b q).1 ≠ -1) := by first | exact ⟨hw.1.sce, fun u => (hw.2.2 (by omega)).1 ⟨u.1.1, u.1.2.2⟩⟩ | exact ⟨hsc.sce, fun u => by have y := u.1.2.1; rw [hbk] at y; omega⟩ | exact ⟨hse, fun u => u.2 (htr.no (fun y => hcS.2 y))⟩
    refine jblk hF [(.iconst 0, 1)] (by decide +kernel) (pc' := 50) (lo' := [(4, (2, v_3)), (0, (2, 3)), (1, (0, p)), (2, (0, b)), (3, (0, q))]) (st' := [(0, 0)]) rfl ?_
    refine jzret hF hr (by omega) (by decide +kernel) ?_
    exact lMB0 ⟨hR_m_1, by first | exact ⟨hno.1, ⟨fun u => u.elim, fun u => absurd u hno.2⟩, fun u => u.elim⟩ | exact ⟨hse, ⟨fun _ => ⟨hls, hye.1⟩, fun _ => trivial⟩, fun _ => hye.2⟩⟩
  · obtain ⟨hpg, hpo, hmd⟩ := hw.2.1 (by omega)
    obtain ⟨hkv, hv1, hv2, hv3, hv4, hv5⟩ := hpo.at
    have hsc := hw.1
    have hpm := hpo.scf hw.1 hI
    have e47 : m_1 v_3 2 = mem 47 p := (hw.1 v_3 2 (by omega) (by omega) (by omega)).trans hpo.nm.2.2.1
    have e52 : m_1 v_3 7 = mem 52 p := (hw.1 v_3 7 (by omega) (by omega) (by omega)).trans hpo.nm.2.2.2.2.2.2.2.1
    have h47 : 2 ≤ mem 47 p ∧ mem 47 p ≤ 40 := ⟨hpo.2.2.2.2.2.2.1, hpo.2.2.2.2.2.2.2.1⟩
    have h52 : 3 ≤ mem 52 p := by (obtain ⟨-, -, y, -, -, -, -, -, y1, -, -, -, -, -, y2, -⟩ := hpo.2.2; omega)
    have hbk := blks (L := mem 47 p) (m := mem 52 p) (by omega)
    have hdv := Int.ediv_nonneg (a := mem 47 p - 1) (b := mem 52 p) (by omega) (by omega)
    have hdl := Int.ediv_le_self (mem 52 p) (show 0 ≤ mem 47 p - 1 by omega)
    refine jblk hF [(.iload_n 2, 1), (.iconst 0, 1), (.aload 4, 2)] (by decide +kernel) (pc' := 17) (lo' := [(4, (2, v_3)), (0, (2, 3)), (1, (0, p)), (2, (0, b)), (3, (0, q))]) (st' := [(2, v_3), (0, 0), (0, b)]) rfl ?_
    refine jcallV hF (c_X3_blocks hG v_3 (by exact hkv) (by omega) (by exact hpm.pb)) MW_X3_blocks 4 (by decide) (by first | exact hkv | assumption | omega) wd_1037 wd_815 wd_816 (by decide +kernel) [(0, 0), (0, b)] rfl rfl (by decide) (Nat.le_of_ble_eq_true rfl) (by decide) (kV ?_)
    rw [e47, e52]
    refine jblk hF [(.iconst 1, 1), (.isub, 1)] (by decide +kernel) (pc' := 22) (lo' := [(4, (2, v_3)), (0, (2, 3)), (1, (0, p)), (2, (0, b)), (3, (0, q))]) (st' := [(0, ((mem 47 p - 1) / mem 52 p + 1) - 1), (0, 0), (0, b)]) rfl ?_
    refine jcallS hF (c_X11_within hG b 0 (((mem 47 p - 1) / mem 52 p + 1) - 1) (by omega) (by decide) (by omega)) MW_X11_within wd_391 wd_392 (by decide +kernel) [] rfl rfl (by decide) (Nat.le_of_ble_eq_true rfl) (by decide) (kB (fun h_5 => ?_) (fun h_5 => ?_))
    · refine jif_eq hF (off := 24) 49 (by decide +kernel) (by decide) (by decide) (fun h => absurd h (by decide)) (fun _ => ?_)
      have hB := hpo.bkf hsc (b := b) (by omega)
      have hls : LSC mem p b q := ⟨hpg.1, by rw [hbk]; omega, hpg.2⟩
      refine jblk hF [(.aload_n 0, 1)] (by decide +kernel) (pc' := 29) (lo' := [(4, (2, v_3)), (0, (2, 3)), (1, (0, p)), (2, (0, b)), (3, (0, q))]) (st' := [(2, 3)]) rfl ?_
      refine jget hF 12 10 2 10 rfl (by decide) (by decide) rfl wd_336 (by decide +kernel) (by exact hK.k3) ?_
      rw [HR.r3_10 hR_m_1]
      refine jblk hF [(.aload_n 0, 1)] (by decide +kernel) (pc' := 33) (lo' := [(4, (2, v_3)), (0, (2, 3)), (1, (0, p)), (2, (0, b)), (3, (0, q))]) (st' := [(2, 3), (2, 14)]) rfl ?_
      refine jget hF 12 9 2 9 rfl (by decide) (by decide) rfl wd_335 (by decide +kernel) (by exact hK.k3) ?_
      rw [HR.r3_9 hR_m_1]
      refine jblk hF [(.aload 4, 2), (.iload_n 2, 1)] (by decide +kernel) (pc' := 39) (lo' := [(4, (2, v_3)), (0, (2, 3)), (1, (0, p)), (2, (0, b)), (3, (0, q))]) (st' := [(0, b), (2, v_3), (2, 10), (2, 14)]) rfl ?_
      refine jcallV hF (c_X6_explains hG hK hR_m_1 v_3 b (by exact hkv) (by omega) (by exact hpm.pb) (by omega) (by exact ⟨by omega, by rw [hB.2.1, hB.2.2.1]; exact hB.2.2.2.2.1⟩) (by exact hpo.exb hI.sls (by omega) hmd hB)) MW_X6_explains 7 (by decide) (by exact hK.k14) wd_1054 wd_1055 wd_1056 (by decide +kernel) [] rfl rfl (by decide) (Nat.le_of_ble_eq_true rfl) (by decide) (kMB (fun m_7 h_8 => ?_) (fun m_7 h_8 => ?_))
      · obtain ⟨hR_m_7, h_8⟩ := h_8
        obtain ⟨S, hcS, hER⟩ := h_8
        have htr := hpo.exq hmd hB hER
        have hse := hsc.fxp hER.1
        refine jif_eq hF (off := 7) 49 (by decide +kernel) (by decide) (by decide) (fun h => absurd h (by decide)) (fun _ => ?_)
        have hye := htr.yes hER.2.1 (hcS.1 trivial)
        refine jblk hF [(.iconst 1, 1)] (by decide +kernel) (pc' := 46) (lo' := [(4, (2, v_3)), (0, (2, 3)), (1, (0, p)), (2, (0, b)), (3, (0, q))]) (st' := [(0, 1)]) rfl ?_
        refine jgoto hF (off := 4) 50 (by decide +kernel) (by decide) ?_
        refine jzret hF hr (by omega) (by decide +kernel) ?_
        exact lMB1 ⟨hR_m_7, by first | exact ⟨hno.1, ⟨fun u => u.elim, fun u => absurd u hno.2⟩, fun u => u.elim⟩ | exact ⟨hse, ⟨fun _ => ⟨hls, hye.1⟩, fun _ => trivial⟩, fun _ => hye.2⟩⟩
      · obtain ⟨hR_m_7, h_8⟩ := h_8
        obtain ⟨S, hcS, hER⟩ := h_8
        have htr := hpo.exq hmd hB hER
        have hse := hsc.fxp hER.1
        refine jif_eq hF (off := 7) 49 (by decide +kernel) (by decide) (by decide) (fun _ => ?_) (fun h => absurd h (by decide))
        have hno : SCE mem m_7 ∧ ¬ (LSC mem p b q ∧ (leastS mem p b q).1 ≠ -1) := by first | exact ⟨hw.1.sce, fun u => (hw.2.2 (by omega)).1 ⟨u.1.1, u.1.2.2⟩⟩ | exact ⟨hsc.sce, fun u => by have y := u.1.2.1; rw [hbk] at y; omega⟩ | exact ⟨hse, fun u => u.2 (htr.no (fun y => hcS.2 y))⟩
        refine jblk hF [(.iconst 0, 1)] (by decide +kernel) (pc' := 50) (lo' := [(4, (2, v_3)), (0, (2, 3)), (1, (0, p)), (2, (0, b)), (3, (0, q))]) (st' := [(0, 0)]) rfl ?_
        refine jzret hF hr (by omega) (by decide +kernel) ?_
        exact lMB0 ⟨hR_m_7, by first | exact ⟨hno.1, ⟨fun u => u.elim, fun u => absurd u hno.2⟩, fun u => u.elim⟩ | exact ⟨hse, ⟨fun _ => ⟨hls, hye.1⟩, fun _ => trivial⟩, fun _ => hye.2⟩⟩
    · refine jif_eq hF (off := 24) 49 (by decide +kernel) (by decide) (by decide) (fun _ => ?_) (fun h => absurd h (by decide))
      have hno : SCE mem m_1 ∧ ¬ (LSC mem p b q ∧ (leastS mem p b q).1 ≠ -1) := by first | exact ⟨hw.1.sce, fun u => (hw.2.2 (by omega)).1 ⟨u.1.1, u.1.2.2⟩⟩ | exact ⟨hsc.sce, fun u => by have y := u.1.2.1; rw [hbk] at y; omega⟩ | exact ⟨hse, fun u => u.2 (htr.no (fun y => hcS.2 y))⟩
      refine jblk hF [(.iconst 0, 1)] (by decide +kernel) (pc' := 50) (lo' := [(4, (2, v_3)), (0, (2, 3)), (1, (0, p)), (2, (0, b)), (3, (0, q))]) (st' := [(0, 0)]) rfl ?_
      refine jzret hF hr (by omega) (by decide +kernel) ?_
      exact lMB0 ⟨hR_m_1, by first | exact ⟨hno.1, ⟨fun u => u.elim, fun u => absurd u hno.2⟩, fun u => u.elim⟩ | exact ⟨hse, ⟨fun _ => ⟨hls, hye.1⟩, fun _ => trivial⟩, fun _ => hye.2⟩⟩
end
