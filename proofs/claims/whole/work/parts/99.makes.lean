section
/-- what a plan leaves of the model's cells, as far as they count -/
def PLQ (m M' : Int → Int → Int) (P : Int) (c : List Int) : Prop := (∀ x j : Int, SC x j → ¬ (x = 35 ∧ 11 ≤ j ∧ j ≤ 16) → ¬ (x = 41 ∧ 620 * P ≤ j ∧ j < 620 * P + 620) → ¬ (x = 42 ∧ j = P) → M' x j = m x j) ∧ SG (M' 41) (620 * P) c ∧ M' 42 P = c.length ∧ (c.length : Int) ≤ 340 ∧ M' 35 11 = 0 ∧ M' 35 16 = P + 1
theorem PLQ.of {mem m M' : Int → Int → Int} (hM : PLM mem M' (mem 35 16) (fauP (mem 39) (mem 35 11)).2.2) (hf : ∀ b j : Int, b ≠ 7 → m b j = mem b j) : PLQ m M' (m 35 16) (fauP (m 39) (m 35 11)).2.2 := by
  rw [show m 39 = mem 39 from funext fun j => hf 39 j (by decide), hf 35 11 (by decide), hf 35 16 (by decide)]
  exact ⟨fun x j u1 u2 u3 u4 => (hM.1 x j u2 (by omega) u3 u4).trans (hf x j (by omega)).symm, hM.2⟩
section
variable {kd kd1 kd2 : Int → Nat} {ln ln1 ln2 : Int → Int} {mem mem1 mem2 : Int → Int → Int} {sz sz1 sz2 : Nat} {tg : Int → Int} {e : Int}
theorem GRX.plan (hI : INV kd ln mem sz tg) (hfa : (fauP (mem 39) (mem 35 11)).1 = -1) (hN : mem 35 16 ≠ 12) (hE1 : EXT kd ln sz kd1 ln1 sz1) (hf1 : ∀ b j : Int, b < sz → mem1 b j = mem b j) (he : e = sz) (hs1 : sz1 = sz + 2) (hke : kd1 e = 12) (hfl : mem1 e 0 = e + 1 ∧ mem1 e 1 = mem 35 11) (hr : kd1 (e + 1) = 20 ∧ ln1 (e + 1) = mem 35 11 ∧ ∀ j : Int, mem1 (e + 1) j = if 0 ≤ j ∧ j < mem 35 11 then mem 39 j else 0) (hA : ADDP ln1 mem1 sz1 28 e kd2 ln2 mem2) (hz2 : mem2 28 1 < sz2) (hE2 : EXT kd1 ln1 sz1 kd2 ln2 sz2) : ∀ M' : Int → Int → Int, PLQ mem M' (mem 35 16) (fauP (mem 39) (mem 35 11)).2.2 → GRX kd2 ln2 (set2 mem2 5 1 0) sz2 M' := by
  intro M' hM
  have hs := hI.1.2.2.2.2.1
  have hn := hI.pls
  have hpx := hI.ptx
  have htp := hI.tap
  have hz := hE2.1
  have hl : mem1 28 1 < sz := by rw [hf1 28 1 (by omega)]; exact hI.g28.1.2.2.2.2.1
  have hat := hA.at hl (by omega) (b := e) (by omega)
  have har := hA.at hl (by omega) (b := e + 1) (by omega)
  have er := hE2.2 (e + 1) (by omega)
  obtain ⟨m1, m2, m3, m4, m5, m6⟩ := hM
  have hcg : fauP (mem2 (mem2 e 0)) (mem2 e 1) = fauP (mem 39) (mem 35 11) := by
    rw [hat 0, hat 1, hfl.1, hfl.2]
    refine fauP_cg (fun i u => ?_)
    rw [har i, hr.2.2 i]
    by_cases w : 0 ≤ i
    · rw [if_pos ⟨w, u⟩]
    · rw [if_neg (fun v => w v.1), ← htp.2.1]; exact (htp.2.2 i (by omega)).symm
  have hG : GRP kd2 ln2 mem2 sz2 (tgN tg sz sz1 28 (mem 35 16) id) (set2 M' 35 11 (mem 35 11)) := by
    refine hI.2.2.add28 hI.2.1 hs (by omega) hE1 hf1 hA hz2 hE2 (by omega) hke tgN_x (tgN_1 (by omega)) ?_ ?_ (fun x j q1 q2 => ?_) ⟨?_, ?_, ?_, ?_, ?_, fun j u1 u2 => ?_, ?_, ?_, ?_, ?_⟩
    · rw [tgN_n (by omega), he, Int.sub_self]; exact Int.add_zero _
    · rw [s2_k (by decide)]; exact m6
    · by_cases w : x = 35 ∧ j = 11
      · rw [w.1, w.2]; exact s2_s
      · exact (if_neg w).trans (m1 x j q1 (by omega) (by omega) (by omega))
    · rw [hat 0, hfl.1]; exact er.1.trans hr.1
    · rw [hat 0, hfl.1]
      exact ⟨by omega, by omega, by rw [tgN_n (by omega), he]; show _ + ((sz : Int) + 1 - sz) = _; omega⟩
    · rw [hat 1, hfl.2]; exact hpx.1
    · rw [hat 0, hat 1, hfl.1, hfl.2, er.2, hr.2.1]; exact Int.le_refl _
    · rw [hat 0, hfl.1, er.2, hr.2.1]; exact hpx.2.1
    · rw [hat 1, hfl.2] at u2
      rw [hat 0, hfl.1, har j, hr.2.2 j, if_pos ⟨u1, u2⟩]
      exact hpx.2.2 j u1 (by omega)
    · rw [hcg]; exact hfa
    · rw [hcg, show set2 M' 35 11 (mem 35 11) 41 = M' 41 from funext fun j => s2_a (by decide)]; exact m2
    · rw [hcg, s2_a (by decide)]; exact m3
    · rw [s2_a (by decide), m3]; exact m4
  refine ⟨_, hG.nums (by have := hE1.1; omega) (fun a j w => s2_a (by omega)) (fun x j w1 w2 w3 w4 => (if_neg (by omega)).symm) ?_⟩
  obtain ⟨⟨g1, g2, g3, g4, g5, g6⟩, g7, g8, g9, g10⟩ := hG.1
  refine ⟨⟨(s2_a (by decide)).trans g1, (s2_a (by decide)).trans g2, (s2_a (by decide)).trans g3, (s2_a (by decide)).trans g4, (s2_a (by decide)).trans g5, (s2_a (by decide)).trans g6⟩, fun x y u1 u2 u3 u4 => (s2_a (by decide)).trans ((g7 x y u1 u2 u3 u4).trans ?_), ?_, ?_, fun j u => (s2_a (by decide)).trans (g10 j u)⟩
  · delta leftV lsN; rfl
  · rw [s2_s]; exact m5.symm
  · rw [show set2 mem2 5 1 0 6 = mem2 6 from funext fun j => s2_a (by decide), g9]
    exact funext fun j => s2_a (by decide)
end
theorem fdP_fr {p r : Int} {B : Int → Int} {mem : Int → Int → Int} (hpr : p ≠ r) : ∀ k : Nat, (∀ a j : Int, a ≠ r → ¬ (a = p ∧ j = 1) → fdP p r B mem k a j = mem a j) ∧ fdP p r B mem k p 1 = mem p 1 + nzc B k := by
  intro k
  induction k with
  | zero => exact ⟨fun _ _ _ _ => rfl, (Int.add_zero _).symm⟩
  | succ k ih =>
    unfold fdP nzc
    split
    · exact ⟨ih.1, by rw [ih.2]; omega⟩
    · refine ⟨fun a j h1 h2 => ?_, ?_⟩
      · unfold set2
        rw [if_neg h2, if_neg (fun q => h1 q.1)]
        exact ih.1 a j h1 h2
      · rw [s2_s, ih.2]; omega
set_option maxHeartbeats 4000000 in
set_option maxRecDepth 100000 in
theorem c_X11_plan {l : Launch} {g : GP} (hG : GH g) {kd : Int → Nat} {ln : Int → Int} {mem : Int → Int → Int} {sz : Nat} (hK : HK kd ln) (hR : HR mem) (tg : Int → Int) (hI : INV kd ln mem sz tg) (hEM : EMP g) (mi : Nat) (hMI : va_Mi "[Ljava/lang/Object;" mi (gs g)) : MT l g yX11_plan cX11_plan 1 (some .int) 28 3 262 [(2, 3)] kd ln mem sz (pXR 0 (fun v kd' ln' mem' sz' => HR mem' ∧ (((plnC mem) → v = mem 35 16 ∧ ∀ M' : Int → Int → Int, PLM mem M' (mem 35 16) (fauP (mem 39) (mem 35 11)).2.2 → GRX kd' ln' mem' sz' M') ∧ (¬ (plnC mem) → v = -1 ∧ GRX kd' ln' mem' sz' mem) ∧ MKP mem mem')) kd ln sz) := by
  refine MT_of hG (by decide +kernel) (Nat.le_of_ble_eq_true rfl) (fun z hF hr hn => ?_)
  obtain ⟨⟨q0, q1, q2, q3, q4, q5⟩, u0, u2, u46, u89, usz⟩ := hI.num
  have n28 : 0 ≤ mem 35 16 ∧ mem 35 16 ≤ 12 := ⟨hI.pls.1, hI.pls.2⟩
  obtain ⟨e28, k28, r28, b28, c28⟩ := hI.g28.ls
  have htx := hI.ttx hK hR
  have heb := hI.1.2.2.2.2.2
  have htp := hI.tap
  have hpx := hI.ptx
  refine jblk hF [(.aload_n 0, 1)] (by decide +kernel) (pc' := 1) (lo' := [(0, (2, 3))]) (st' := [(2, 3)]) rfl ?_
  refine jget hF 12 13 2 13 rfl (by decide) (by decide) rfl wd_339 (by decide +kernel) (by exact hK.k3) ?_
  rw [HR.r3_13 hR]
  refine jcallV hF (c_Jx4a65c_size_8abf5 hG 28 (by first | assumption | omega)) MW_Jx4a65c_size_8abf5 0 (by decide) (by exact hK.k28) wd_410 wd_411 wd_412 (by decide +kernel) [] rfl rfl (by decide) (Nat.le_of_ble_eq_true rfl) (by decide) (kV ?_)
  rw [e28]
  refine jblk hF [(.bipush 12, 2)] (by decide +kernel) (pc' := 9) (lo' := [(0, (2, 3))]) (st' := [(0, 12), (0, mem 35 16)]) rfl ?_
  refine jicmp_ge hF (off := 18) 27 (by decide +kernel) (by decide) (by omega) (by decide) (fun h_1 => ?_) (fun h_1 => ?_)
  · have hng : ¬ plnC mem := fun u => by first | (have := u.1; omega) | (have := u.2; have := hf.1; omega)
    have hmk0 : MKP mem mem := by first | exact MKP.rf hI | exact ⟨fun a j u1 u2 => hf.2.1 a j (by omega), hf.2.2⟩
    have hgr0 : GRX kd ln mem sz mem := by first | exact ⟨tg, hI.2.2⟩ | exact ⟨tg, hI.2.2.fr usz EXT.rf (fun _ _ => rfl) (fun a j u => hf.2.1 a j (by omega)) (fun _ _ _ => rfl)⟩
    refine jblk hF [(.iconst (-1), 1)] (by decide +kernel) (pc' := 28) (lo' := [(0, (2, 3))]) (st' := [(0, (-1))]) rfl ?_
    refine jwiden (k := 3) (n := 262) (Nat.le_of_ble_eq_true rfl) (Nat.le_of_ble_eq_true rfl) ?_
    refine jiret hF hr (by decide +kernel) ?_
    exact ⟨_, rfl, EXT.rf, ⟨hR, by exact ⟨fun u => absurd u hng, fun _ => ⟨rfl, hgr0⟩, hmk0⟩⟩⟩
  · refine jblk hF [(.aload_n 0, 1)] (by decide +kernel) (pc' := 13) (lo' := [(0, (2, 3))]) (st' := [(2, 3)]) rfl ?_
    refine jget hF 12 8 2 8 rfl (by decide) (by decide) rfl wd_334 (by decide +kernel) (by exact hK.k3) ?_
    rw [HR.r3_8 hR]
    refine jblk hF [(.aload_n 0, 1)] (by decide +kernel) (pc' := 17) (lo' := [(0, (2, 3))]) (st' := [(2, 3), (2, 7)]) rfl ?_
    refine jget hF 12 7 2 7 rfl (by decide) (by decide) rfl wd_333 (by decide +kernel) (by exact hK.k3) ?_
    rw [HR.r3_7 hR]
    refine jcallV hF (c_X5_faultIn hG 5 (by exact hK.k7) (by exact 6) (by exact mem 39) (by exact mem 35 11) (by exact htx) (by exact heb)) MW_X5_faultIn 6 (by decide) (by exact hK.k7) wd_576 wd_577 wd_578 (by decide +kernel) [] rfl rfl (by decide) (Nat.le_of_ble_eq_true rfl) (by decide) (kMR (fun v_4 m_2 h_3 => ?_))
    have hf := h_3
    have hvb : InI v_4 := by rw [hf.1]; exact fauP_in _ _ hpx.1 hpx.2.1
    have hR_m_2 : HR m_2 := HR.of hR (fun a k u => hf.2.1 a k (by omega))
    refine jblk hF [(.iconst (-1), 1)] (by decide +kernel) (pc' := 24) (lo' := [(0, (2, 3))]) (st' := [(0, (-1)), (0, v_4)]) rfl ?_
    refine jicmp_eq hF (off := 5) 29 (by decide +kernel) (by decide) (by omega) (by decide) (fun h_5 => ?_) (fun h_5 => ?_)
    · obtain ⟨mF, hmF⟩ : ∃ q : Int → Int → Int, q = m_2 := ⟨_, rfl⟩
      rw [← hmF]
      have hR_mF : HR mF := by rw [hmF]; exact hR_m_2
      have hcc : plnC mem := ⟨by omega, by rw [← hf.1]; omega⟩
      have hfF : ∀ b j : Int, b ≠ 7 → mF b j = mem b j := by rw [hmF]; exact hf.2.1
      have hI1 : INV kd ln mF sz tg := hI.fr (fun a j u => hfF a j (by omega)) (by rw [hmF]; exact hf.2.2)
      have e50 : mF 5 0 = 6 := HR.r5_0 hR_mF
      have e51 : mF 5 1 = mem 35 11 := (hfF 5 1 (by decide)).trans htp.1
      have e6 : mF 6 = mem 39 := (funext fun j => hfF 6 j (by decide)).trans htp.2.1
      have hkr : kd (mF 5 0) = 20 := by rw [e50]; exact hK.k6
      have hlr : ln (mF 5 0) = 160 := by rw [e50]; exact hK.l6
      have c9 : mF 39 = mem 39 := funext fun j => hfF 39 j (by decide)
      have c11 : mF 35 11 = mem 35 11 := hfF 35 11 (by decide)
      have c16 : mF 35 16 = mem 35 16 := hfF 35 16 (by decide)
      have h282 : mF 28 2 = mem 35 16 := (hfF 28 2 (by decide)).trans e28
      refine jblk hF [(.aload_n 0, 1)] (by decide +kernel) (pc' := 30) (lo' := [(0, (2, 3))]) (st' := [(2, 3)]) rfl ?_
      refine jget hF 12 13 2 13 rfl (by decide) (by decide) rfl wd_339 (by decide +kernel) (by exact hK.k3) ?_
      rw [HR.r3_13 hR_mF]
      refine jblk hF [(.aload_n 0, 1)] (by decide +kernel) (pc' := 34) (lo' := [(0, (2, 3))]) (st' := [(2, 3), (2, 28)]) rfl ?_
      refine jget hF 12 7 2 7 rfl (by decide) (by decide) rfl wd_333 (by decide +kernel) (by exact hK.k3) ?_
      rw [HR.r3_7 hR_mF]
      refine jcallV hF (c_X10_twin hG 5 (by exact hK.k5) (by omega) (by assumption) (by (rw [e50]; omega)) (by (rw [hlr, e51]; omega)) (by assumption)) MW_X10_twin 11 (by decide) (by exact hK.k5) wd_673 wd_674 wd_675 (by decide +kernel) [(2, 28)] rfl rfl (by decide) (Nat.le_of_ble_eq_true rfl) (by decide) (kXR (fun v_6 kd_6 ln_6 m_6 sz_6 hE_6 h_6 => ?_))
      have hEE_6 : EXT kd ln sz kd_6 ln_6 sz_6 := (EXT.rf).tr hE_6
      have hK_6 : HK kd_6 ln_6 := hK.ext hE_6 (by omega)
      obtain ⟨t1, t2, t3, t4, t5, t6, t7, t8, t9⟩ := h_6
      rw [e51, ← c11] at t4 t7 t8
      rw [e50, e6, ← c9] at t8
      have hE1x := hE_6
      have hf1x : ∀ b j : Int, b < sz → m_6 b j = mF b j := fun b j u => t9 b j (by omega) (by omega)
      have hR_m_6 : HR m_6 := HR.of hR_mF (fun x k u => hf1x x k (by omega))
      have hke : kd_6 v_6 = 12 := by rw [t2]; exact t5
      have hlo := hI1.g28.lso hE1x hf1x wx_2256 (by decide) (by omega)
      rw [← t2] at t3 t4 t6 t7 t8
      refine jcallV hF (c_Jx4a65c_add_9ea2d hG 28 v_6 (by assumption) (by exact mi) (by assumption) (by exact hlo.1) (by exact hlo.2) (by exact 11) (by decide) (by first | assumption | exact hke) (by omega) (by exact wx_2256)) MW_Jx4a65c_add_9ea2d 0 (by decide) (by exact hK_6.k28) wd_430 wd_431 wd_432 (by decide +kernel) [] rfl rfl (by decide) (Nat.le_of_ble_eq_true rfl) (by decide) (kXR (fun v_7 kd_7 ln_7 m_7 sz_7 hE_7 h_7 => ?_))
      have hEE_7 : EXT kd ln sz kd_7 ln_7 sz_7 := (hEE_6).tr hE_7
      have hK_7 : HK kd_7 ln_7 := hK_6.ext hE_7 (by omega)
      obtain ⟨hv1, hAd, hAz⟩ := h_7
      have hE2x := hE_7
      have hfx : ∀ a j : Int, (a < 27 ∨ (34 < a ∧ a ≤ 100)) → m_7 a j = mF a j := hAd.mkp (hI1.g28.2.1.imp id (fun u => u.1)) hf1x (by omega) (by omega) (by decide)
      have hR_m_7 : HR m_7 := HR.of hR_mF (fun x k u => hfx x k (by omega))
      have hsz2 : m_7 28 2 = mem 35 16 + 1 := by rw [hAd.2.2.2.2.2.1, hf1x 28 2 (by omega), h282]
      have hmk : MKP mem (set2 m_7 5 1 0) := ⟨fun a j u1 u2 => (s2_a (by omega)).trans ((hfx a j (by omega)).trans (hfF a j (by omega))), by (have w := (MKP.of hI1 hfx).2; unfold EB at *; rw [s2_a (by decide), s2_a (by decide), s2_a (by decide)]; exact w)⟩
      have hkLx : kd_7 28 = 1 := ((hE1x.tr hE2x).2 28 (by omega)).1.trans k28
      refine jblk hF [(.pop, 1), (.aload_n 0, 1)] (by decide +kernel) (pc' := 45) (lo' := [(0, (2, 3))]) (st' := [(2, 3)]) rfl ?_
      refine jget hF 12 7 2 7 rfl (by decide) (by decide) rfl wd_333 (by decide +kernel) (by exact hK_7.k3) ?_
      rw [HR.r3_7 hR_m_7]
      refine jblk hF [(.iconst 0, 1)] (by decide +kernel) (pc' := 49) (lo' := [(0, (2, 3))]) (st' := [(0, 0), (2, 5)]) rfl ?_
      refine jput hF 11 1 0 1 rfl (by decide) (by decide) rfl wd_151 (by decide +kernel) rfl (Or.inl rfl) (by exact hK_7.k5) (fun h => by cases h) ?_
      refine jblk hF [(.aload_n 0, 1)] (by decide +kernel) (pc' := 53) (lo' := [(0, (2, 3))]) (st' := [(2, 3)]) rfl ?_
      refine jget hF 12 13 2 13 rfl (by decide) (by decide) rfl wd_339 (by decide +kernel) (by exact hK_7.k3) ?_
      rw [HR.r3_13 (HR.s hR_m_7 (by omega))]
      refine jcallV hF (c_Jx4a65c_size_8abf5 hG 28 (by first | assumption | omega)) MW_Jx4a65c_size_8abf5 0 (by decide) (by exact hK_7.k28) wd_410 wd_411 wd_412 (by decide +kernel) [] rfl rfl (by decide) (Nat.le_of_ble_eq_true rfl) (by decide) (kV ?_)
      rw [s2_a (by decide), hsz2]
      refine jblk hF [(.iconst 1, 1), (.isub, 1)] (by decide +kernel) (pc' := 61) (lo' := [(0, (2, 3))]) (st' := [(0, (mem 35 16 + 1) - 1)]) rfl ?_
      refine jwiden (k := 3) (n := 262) (Nat.le_of_ble_eq_true rfl) (Nat.le_of_ble_eq_true rfl) ?_
      refine jiret hF hr (by decide +kernel) ?_
      exact ⟨_, rfl, hEE_7, ⟨(HR.s hR_m_7 (by omega)), by exact ⟨fun _ => ⟨by omega, fun M' hM => GRX.plan hI1 (by rw [c9, c11]; exact hcc.2) (by rw [c16]; exact hcc.1) hE1x hf1x t2 (by omega) hke ⟨t3, t4⟩ ⟨t6, t7, t8⟩ hAd hAz hE2x M' (PLQ.of (hM := hM) hfF)⟩, fun u => absurd hcc u, hmk⟩⟩⟩
    · have hng : ¬ plnC mem := fun u => by first | (have := u.1; omega) | (have := u.2; have := hf.1; omega)
      have hmk0 : MKP mem m_2 := by first | exact MKP.rf hI | exact ⟨fun a j u1 u2 => hf.2.1 a j (by omega), hf.2.2⟩
      have hgr0 : GRX kd ln m_2 sz mem := by first | exact ⟨tg, hI.2.2⟩ | exact ⟨tg, hI.2.2.fr usz EXT.rf (fun _ _ => rfl) (fun a j u => hf.2.1 a j (by omega)) (fun _ _ _ => rfl)⟩
      refine jblk hF [(.iconst (-1), 1)] (by decide +kernel) (pc' := 28) (lo' := [(0, (2, 3))]) (st' := [(0, (-1))]) rfl ?_
      refine jwiden (k := 3) (n := 262) (Nat.le_of_ble_eq_true rfl) (Nat.le_of_ble_eq_true rfl) ?_
      refine jiret hF hr (by decide +kernel) ?_
      exact ⟨_, rfl, EXT.rf, ⟨hR_m_2, by exact ⟨fun u => absurd u hng, fun _ => ⟨rfl, hgr0⟩, hmk0⟩⟩⟩
set_option maxHeartbeats 4000000 in
set_option maxRecDepth 100000 in
theorem c_X11_feed {l : Launch} {g : GP} (hG : GH g) {kd : Int → Nat} {ln : Int → Int} {mem : Int → Int → Int} {sz : Nat} (hK : HK kd ln) (hR : HR mem) (a b c d e : Int) (tg : Int → Int) (hI : INV kd ln mem sz tg) (h_a : InI a) (h_b : InI b) (h_c : InI c) (h_d : InI d) (h_e : InI e) : MT l g yX11_feed cX11_feed 7 (some .int) 1 0 0 [(2, 3), (0, a), (0, b), (0, c), (0, d), (0, e)] kd ln mem sz (pMR 0 (fun v mem' => HR mem' ∧ ((mem 35 11 + nzc (byteI a) 4 + nzc (byteI b) 4 + nzc (byteI c) 4 + nzc (byteI d) 4 + nzc (byteI e) 4 > 160 → v = -1 ∧ mem' = mem) ∧ (¬ mem 35 11 + nzc (byteI a) 4 + nzc (byteI b) 4 + nzc (byteI c) 4 + nzc (byteI d) 4 + nzc (byteI e) 4 > 160 → v = mem 35 11 + nzc (byteI a) 4 + nzc (byteI b) 4 + nzc (byteI c) 4 + nzc (byteI d) 4 + nzc (byteI e) 4 ∧ mem' = (fdP 5 6 (byteI e) (fdP 5 6 (byteI d) (fdP 5 6 (byteI c) (fdP 5 6 (byteI b) (fdP 5 6 (byteI a) mem 4) 4) 4) 4) 4)))) kd ln sz) := by
  refine MT_of hG (by decide +kernel) (Nat.le_of_ble_eq_true rfl) (fun z hF hr hn => ?_)
  obtain ⟨⟨q0, q1, q2, q3, q4, q5⟩, u0, u2, u46, u89, usz⟩ := hI.num
  have htp := hI.tap
  have hpx := hI.ptx
  have k6 := hK.k6
  have l6 := hK.l6
  have g50 : mem 5 0 = 6 := HR.r5_0 hR
  have z1 := nzc_bd (byteI a) 4
  have z2 := nzc_bd (byteI b) 4
  have z3 := nzc_bd (byteI c) 4
  have z4 := nzc_bd (byteI d) 4
  have z5 := nzc_bd (byteI e) 4
  refine jblk hF [(.iload_n 1, 1)] (by decide +kernel) (pc' := 1) (lo' := [(0, (2, 3)), (1, (0, a)), (2, (0, b)), (3, (0, c)), (4, (0, d)), (5, (0, e))]) (st' := [(0, a)]) rfl ?_
  refine jcallS hF (c_X11_bytesIn hG a (by omega)) MW_X11_bytesIn wd_561 wd_562 (by decide +kernel) [] rfl rfl (by decide) (Nat.le_of_ble_eq_true rfl) (by decide) (kV ?_)
  refine jblk hF [(.iload_n 2, 1)] (by decide +kernel) (pc' := 5) (lo' := [(0, (2, 3)), (1, (0, a)), (2, (0, b)), (3, (0, c)), (4, (0, d)), (5, (0, e))]) (st' := [(0, b), (0, nzc (byteI a) 4)]) rfl ?_
  refine jcallS hF (c_X11_bytesIn hG b (by omega)) MW_X11_bytesIn wd_561 wd_562 (by decide +kernel) [(0, nzc (byteI a) 4)] rfl rfl (by decide) (Nat.le_of_ble_eq_true rfl) (by decide) (kV ?_)
  refine jblk hF [(.iadd, 1), (.iload_n 3, 1)] (by decide +kernel) (pc' := 10) (lo' := [(0, (2, 3)), (1, (0, a)), (2, (0, b)), (3, (0, c)), (4, (0, d)), (5, (0, e))]) (st' := [(0, c), (0, (nzc (byteI a) 4) + (nzc (byteI b) 4))]) rfl ?_
  refine jcallS hF (c_X11_bytesIn hG c (by omega)) MW_X11_bytesIn wd_561 wd_562 (by decide +kernel) [(0, (nzc (byteI a) 4) + (nzc (byteI b) 4))] rfl rfl (by decide) (Nat.le_of_ble_eq_true rfl) (by decide) (kV ?_)
  refine jblk hF [(.iadd, 1), (.iload 4, 2)] (by decide +kernel) (pc' := 16) (lo' := [(0, (2, 3)), (1, (0, a)), (2, (0, b)), (3, (0, c)), (4, (0, d)), (5, (0, e))]) (st' := [(0, d), (0, ((nzc (byteI a) 4) + (nzc (byteI b) 4)) + (nzc (byteI c) 4))]) rfl ?_
  refine jcallS hF (c_X11_bytesIn hG d (by omega)) MW_X11_bytesIn wd_561 wd_562 (by decide +kernel) [(0, ((nzc (byteI a) 4) + (nzc (byteI b) 4)) + (nzc (byteI c) 4))] rfl rfl (by decide) (Nat.le_of_ble_eq_true rfl) (by decide) (kV ?_)
  refine jblk hF [(.iadd, 1), (.iload 5, 2)] (by decide +kernel) (pc' := 22) (lo' := [(0, (2, 3)), (1, (0, a)), (2, (0, b)), (3, (0, c)), (4, (0, d)), (5, (0, e))]) (st' := [(0, e), (0, (((nzc (byteI a) 4) + (nzc (byteI b) 4)) + (nzc (byteI c) 4)) + (nzc (byteI d) 4))]) rfl ?_
  refine jcallS hF (c_X11_bytesIn hG e (by omega)) MW_X11_bytesIn wd_561 wd_562 (by decide +kernel) [(0, (((nzc (byteI a) 4) + (nzc (byteI b) 4)) + (nzc (byteI c) 4)) + (nzc (byteI d) 4))] rfl rfl (by decide) (Nat.le_of_ble_eq_true rfl) (by decide) (kV ?_)
  refine jblk hF [(.iadd, 1), (.istore 6, 2), (.aload_n 0, 1)] (by decide +kernel) (pc' := 29) (lo' := [(6, (0, ((((nzc (byteI a) 4) + (nzc (byteI b) 4)) + (nzc (byteI c) 4)) + (nzc (byteI d) 4)) + (nzc (byteI e) 4))), (0, (2, 3)), (1, (0, a)), (2, (0, b)), (3, (0, c)), (4, (0, d)), (5, (0, e))]) (st' := [(2, 3)]) rfl ?_
  refine jget hF 12 7 2 7 rfl (by decide) (by decide) rfl wd_333 (by decide +kernel) (by exact hK.k3) ?_
  rw [HR.r3_7 hR]
  refine jget hF 11 1 0 1 rfl (by decide) (by decide) rfl wd_151 (by decide +kernel) (by exact hK.k5) ?_
  refine jblk hF [(.iload 6, 2), (.iadd, 1), (.sipush 160, 3)] (by decide +kernel) (pc' := 41) (lo' := [(6, (0, ((((nzc (byteI a) 4) + (nzc (byteI b) 4)) + (nzc (byteI c) 4)) + (nzc (byteI d) 4)) + (nzc (byteI e) 4))), (0, (2, 3)), (1, (0, a)), (2, (0, b)), (3, (0, c)), (4, (0, d)), (5, (0, e))]) (st' := [(0, 160), (0, (mem 5 1) + (((((nzc (byteI a) 4) + (nzc (byteI b) 4)) + (nzc (byteI c) 4)) + (nzc (byteI d) 4)) + (nzc (byteI e) 4)))]) rfl ?_
  refine jicmp_le hF (off := 5) 46 (by decide +kernel) (by decide) (by omega) (by decide) (fun h_1 => ?_) (fun h_1 => ?_)
  · refine jblk hF [(.aload_n 0, 1)] (by decide +kernel) (pc' := 47) (lo' := [(6, (0, ((((nzc (byteI a) 4) + (nzc (byteI b) 4)) + (nzc (byteI c) 4)) + (nzc (byteI d) 4)) + (nzc (byteI e) 4))), (0, (2, 3)), (1, (0, a)), (2, (0, b)), (3, (0, c)), (4, (0, d)), (5, (0, e))]) (st' := [(2, 3)]) rfl ?_
    refine jget hF 12 7 2 7 rfl (by decide) (by decide) rfl wd_333 (by decide +kernel) (by exact hK.k3) ?_
    rw [HR.r3_7 hR]
    refine jblk hF [(.iload_n 1, 1)] (by decide +kernel) (pc' := 51) (lo' := [(6, (0, ((((nzc (byteI a) 4) + (nzc (byteI b) 4)) + (nzc (byteI c) 4)) + (nzc (byteI d) 4)) + (nzc (byteI e) 4))), (0, (2, 3)), (1, (0, a)), (2, (0, b)), (3, (0, c)), (4, (0, d)), (5, (0, e))]) (st' := [(0, a), (2, 5)]) rfl ?_
    refine jcallV hF (c_X10_addBytes hG 5 a (by exact 6) (by exact hK.k5) (by omega) (by first | exact ⟨g50, k6, by decide⟩ | exact ⟨g51, k6, by decide⟩ | exact ⟨g52, k6, by decide⟩ | exact ⟨g53, k6, by decide⟩ | exact ⟨g54, k6, by decide⟩) (by (rw [l6]; omega)) (by omega)) MW_X10_addBytes 11 (by decide) (by exact hK.k5) wd_564 wd_565 wd_566 (by decide +kernel) [] rfl rfl (by decide) (Nat.le_of_ble_eq_true rfl) (by decide) (kMV (fun m_2 h_3 => ?_))
    have hd1 := h_3
    have hff1 := fdP_fr (p := 5) (r := 6) (B := byteI a) (mem := mem) (by decide) 4
    rw [← hd1] at hff1
    have hR_m_2 : HR m_2 := HR.of hR (fun x k u => hff1.1 x k (by omega) (by omega))
    have hRq1 := hR_m_2
    have g51 : m_2 5 0 = 6 := HR.r5_0 hR_m_2
    refine jblk hF [(.aload_n 0, 1)] (by decide +kernel) (pc' := 55) (lo' := [(6, (0, ((((nzc (byteI a) 4) + (nzc (byteI b) 4)) + (nzc (byteI c) 4)) + (nzc (byteI d) 4)) + (nzc (byteI e) 4))), (0, (2, 3)), (1, (0, a)), (2, (0, b)), (3, (0, c)), (4, (0, d)), (5, (0, e))]) (st' := [(2, 3)]) rfl ?_
    refine jget hF 12 7 2 7 rfl (by decide) (by decide) rfl wd_333 (by decide +kernel) (by exact hK.k3) ?_
    rw [HR.r3_7 hR_m_2]
    refine jblk hF [(.iload_n 2, 1)] (by decide +kernel) (pc' := 59) (lo' := [(6, (0, ((((nzc (byteI a) 4) + (nzc (byteI b) 4)) + (nzc (byteI c) 4)) + (nzc (byteI d) 4)) + (nzc (byteI e) 4))), (0, (2, 3)), (1, (0, a)), (2, (0, b)), (3, (0, c)), (4, (0, d)), (5, (0, e))]) (st' := [(0, b), (2, 5)]) rfl ?_
    refine jcallV hF (c_X10_addBytes hG 5 b (by exact 6) (by exact hK.k5) (by omega) (by first | exact ⟨g50, k6, by decide⟩ | exact ⟨g51, k6, by decide⟩ | exact ⟨g52, k6, by decide⟩ | exact ⟨g53, k6, by decide⟩ | exact ⟨g54, k6, by decide⟩) (by (rw [l6]; omega)) (by omega)) MW_X10_addBytes 11 (by decide) (by exact hK.k5) wd_564 wd_565 wd_566 (by decide +kernel) [] rfl rfl (by decide) (Nat.le_of_ble_eq_true rfl) (by decide) (kMV (fun m_4 h_5 => ?_))
    have hd2 := h_5
    have hff2 := fdP_fr (p := 5) (r := 6) (B := byteI b) (mem := m_2) (by decide) 4
    rw [← hd2] at hff2
    have hR_m_4 : HR m_4 := HR.of hRq1 (fun x k u => hff2.1 x k (by omega) (by omega))
    have hRq2 := hR_m_4
    have g52 : m_4 5 0 = 6 := HR.r5_0 hR_m_4
    refine jblk hF [(.aload_n 0, 1)] (by decide +kernel) (pc' := 63) (lo' := [(6, (0, ((((nzc (byteI a) 4) + (nzc (byteI b) 4)) + (nzc (byteI c) 4)) + (nzc (byteI d) 4)) + (nzc (byteI e) 4))), (0, (2, 3)), (1, (0, a)), (2, (0, b)), (3, (0, c)), (4, (0, d)), (5, (0, e))]) (st' := [(2, 3)]) rfl ?_
    refine jget hF 12 7 2 7 rfl (by decide) (by decide) rfl wd_333 (by decide +kernel) (by exact hK.k3) ?_
    rw [HR.r3_7 hR_m_4]
    refine jblk hF [(.iload_n 3, 1)] (by decide +kernel) (pc' := 67) (lo' := [(6, (0, ((((nzc (byteI a) 4) + (nzc (byteI b) 4)) + (nzc (byteI c) 4)) + (nzc (byteI d) 4)) + (nzc (byteI e) 4))), (0, (2, 3)), (1, (0, a)), (2, (0, b)), (3, (0, c)), (4, (0, d)), (5, (0, e))]) (st' := [(0, c), (2, 5)]) rfl ?_
    refine jcallV hF (c_X10_addBytes hG 5 c (by exact 6) (by exact hK.k5) (by omega) (by first | exact ⟨g50, k6, by decide⟩ | exact ⟨g51, k6, by decide⟩ | exact ⟨g52, k6, by decide⟩ | exact ⟨g53, k6, by decide⟩ | exact ⟨g54, k6, by decide⟩) (by (rw [l6]; omega)) (by omega)) MW_X10_addBytes 11 (by decide) (by exact hK.k5) wd_564 wd_565 wd_566 (by decide +kernel) [] rfl rfl (by decide) (Nat.le_of_ble_eq_true rfl) (by decide) (kMV (fun m_6 h_7 => ?_))
    have hd3 := h_7
    have hff3 := fdP_fr (p := 5) (r := 6) (B := byteI c) (mem := m_4) (by decide) 4
    rw [← hd3] at hff3
    have hR_m_6 : HR m_6 := HR.of hRq2 (fun x k u => hff3.1 x k (by omega) (by omega))
    have hRq3 := hR_m_6
    have g53 : m_6 5 0 = 6 := HR.r5_0 hR_m_6
    refine jblk hF [(.aload_n 0, 1)] (by decide +kernel) (pc' := 71) (lo' := [(6, (0, ((((nzc (byteI a) 4) + (nzc (byteI b) 4)) + (nzc (byteI c) 4)) + (nzc (byteI d) 4)) + (nzc (byteI e) 4))), (0, (2, 3)), (1, (0, a)), (2, (0, b)), (3, (0, c)), (4, (0, d)), (5, (0, e))]) (st' := [(2, 3)]) rfl ?_
    refine jget hF 12 7 2 7 rfl (by decide) (by decide) rfl wd_333 (by decide +kernel) (by exact hK.k3) ?_
    rw [HR.r3_7 hR_m_6]
    refine jblk hF [(.iload 4, 2)] (by decide +kernel) (pc' := 76) (lo' := [(6, (0, ((((nzc (byteI a) 4) + (nzc (byteI b) 4)) + (nzc (byteI c) 4)) + (nzc (byteI d) 4)) + (nzc (byteI e) 4))), (0, (2, 3)), (1, (0, a)), (2, (0, b)), (3, (0, c)), (4, (0, d)), (5, (0, e))]) (st' := [(0, d), (2, 5)]) rfl ?_
    refine jcallV hF (c_X10_addBytes hG 5 d (by exact 6) (by exact hK.k5) (by omega) (by first | exact ⟨g50, k6, by decide⟩ | exact ⟨g51, k6, by decide⟩ | exact ⟨g52, k6, by decide⟩ | exact ⟨g53, k6, by decide⟩ | exact ⟨g54, k6, by decide⟩) (by (rw [l6]; omega)) (by omega)) MW_X10_addBytes 11 (by decide) (by exact hK.k5) wd_564 wd_565 wd_566 (by decide +kernel) [] rfl rfl (by decide) (Nat.le_of_ble_eq_true rfl) (by decide) (kMV (fun m_8 h_9 => ?_))
    have hd4 := h_9
    have hff4 := fdP_fr (p := 5) (r := 6) (B := byteI d) (mem := m_6) (by decide) 4
    rw [← hd4] at hff4
    have hR_m_8 : HR m_8 := HR.of hRq3 (fun x k u => hff4.1 x k (by omega) (by omega))
    have hRq4 := hR_m_8
    have g54 : m_8 5 0 = 6 := HR.r5_0 hR_m_8
    refine jblk hF [(.aload_n 0, 1)] (by decide +kernel) (pc' := 80) (lo' := [(6, (0, ((((nzc (byteI a) 4) + (nzc (byteI b) 4)) + (nzc (byteI c) 4)) + (nzc (byteI d) 4)) + (nzc (byteI e) 4))), (0, (2, 3)), (1, (0, a)), (2, (0, b)), (3, (0, c)), (4, (0, d)), (5, (0, e))]) (st' := [(2, 3)]) rfl ?_
    refine jget hF 12 7 2 7 rfl (by decide) (by decide) rfl wd_333 (by decide +kernel) (by exact hK.k3) ?_
    rw [HR.r3_7 hR_m_8]
    refine jblk hF [(.iload 5, 2)] (by decide +kernel) (pc' := 85) (lo' := [(6, (0, ((((nzc (byteI a) 4) + (nzc (byteI b) 4)) + (nzc (byteI c) 4)) + (nzc (byteI d) 4)) + (nzc (byteI e) 4))), (0, (2, 3)), (1, (0, a)), (2, (0, b)), (3, (0, c)), (4, (0, d)), (5, (0, e))]) (st' := [(0, e), (2, 5)]) rfl ?_
    refine jcallV hF (c_X10_addBytes hG 5 e (by exact 6) (by exact hK.k5) (by omega) (by first | exact ⟨g50, k6, by decide⟩ | exact ⟨g51, k6, by decide⟩ | exact ⟨g52, k6, by decide⟩ | exact ⟨g53, k6, by decide⟩ | exact ⟨g54, k6, by decide⟩) (by (rw [l6]; omega)) (by omega)) MW_X10_addBytes 11 (by decide) (by exact hK.k5) wd_564 wd_565 wd_566 (by decide +kernel) [] rfl rfl (by decide) (Nat.le_of_ble_eq_true rfl) (by decide) (kMV (fun m_10 h_11 => ?_))
    have hd5 := h_11
    have hff5 := fdP_fr (p := 5) (r := 6) (B := byteI e) (mem := m_8) (by decide) 4
    rw [← hd5] at hff5
    have hR_m_10 : HR m_10 := HR.of hRq4 (fun x k u => hff5.1 x k (by omega) (by omega))
    have hRq5 := hR_m_10
    have g55 : m_10 5 0 = 6 := HR.r5_0 hR_m_10
    refine jblk hF [(.aload_n 0, 1)] (by decide +kernel) (pc' := 89) (lo' := [(6, (0, ((((nzc (byteI a) 4) + (nzc (byteI b) 4)) + (nzc (byteI c) 4)) + (nzc (byteI d) 4)) + (nzc (byteI e) 4))), (0, (2, 3)), (1, (0, a)), (2, (0, b)), (3, (0, c)), (4, (0, d)), (5, (0, e))]) (st' := [(2, 3)]) rfl ?_
    refine jget hF 12 7 2 7 rfl (by decide) (by decide) rfl wd_333 (by decide +kernel) (by exact hK.k3) ?_
    rw [HR.r3_7 hR_m_10]
    refine jget hF 11 1 0 1 rfl (by decide) (by decide) rfl wd_151 (by decide +kernel) (by exact hK.k5) ?_
    refine jiret hF hr (by decide +kernel) ?_
    exact lMR ⟨hR_m_10, by exact ⟨fun u => absurd u (by omega), fun _ => ⟨by omega, by rw [hd5, hd4, hd3, hd2, hd1]⟩⟩⟩
  · refine jblk hF [(.iconst (-1), 1)] (by decide +kernel) (pc' := 45) (lo' := [(6, (0, ((((nzc (byteI a) 4) + (nzc (byteI b) 4)) + (nzc (byteI c) 4)) + (nzc (byteI d) 4)) + (nzc (byteI e) 4))), (0, (2, 3)), (1, (0, a)), (2, (0, b)), (3, (0, c)), (4, (0, d)), (5, (0, e))]) (st' := [(0, (-1))]) rfl ?_
    refine jiret hF hr (by decide +kernel) ?_
    exact lMR ⟨hR, by exact ⟨fun _ => ⟨rfl, rfl⟩, fun u => absurd (by omega) u⟩⟩
end
