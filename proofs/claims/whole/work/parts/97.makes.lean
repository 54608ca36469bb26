section
section
variable {kd kd1 kd2 : Int → Nat} {ln ln1 ln2 : Int → Int} {mem mem1 mem2 : Int → Int → Int} {sz sz1 sz2 : Nat} {tg : Int → Int} {L N e : Int}
theorem INV.shf (h : INV kd ln mem sz tg) : ∀ s : Int, mem 35 88 ≤ s → s < 8 → mem 98 s = 0 := h.2.1.2.2.2.2.2.2.2.2.2.2.2.2.2.2.2.2.2.2.2.2.2.2.2.2.1
theorem INV.shz (h : INV kd ln mem sz tg) : ∀ i : Int, 40 * mem 35 88 ≤ i → i < 320 → mem 99 i = 0 := h.2.1.2.2.2.2.2.2.2.2.2.2.2.2.2.2.2.2.2.2.2.2.2.2.2.2.2.1
theorem INV.otf (h : INV kd ln mem sz tg) : ∀ i : Int, 40 * mem 35 84 ≤ i → i < 320 → mem 96 i = 0 := h.2.1.2.2.2.2.2.2.2.2.2.2.2.2.2.2.2.2.2.2.2.2.2.2.1
theorem GRX.sheet {k : Int} (hI : INV kd ln mem sz tg) (hc : (0 ≤ k ∧ k ≤ 2) ∧ mem 35 88 ≠ 8) (hE1 : EXT kd ln sz kd1 ln1 sz1) (hf1 : ∀ b j : Int, b < sz → mem1 b j = mem b j) (he : e = sz) (hs1 : sz1 = sz + 2) (hke : kd1 e = 9) (hfl : mem1 e 0 = k ∧ mem1 e 1 = e + 1 ∧ mem1 e 2 = 0) (hr : kd1 (e + 1) = 21 ∧ ln1 (e + 1) = 40 ∧ ∀ j : Int, mem1 (e + 1) j = 0) (hA : ADDP ln1 mem1 sz1 34 e kd2 ln2 mem2) (hz2 : mem2 34 1 < sz2) (hE2 : EXT kd1 ln1 sz1 kd2 ln2 sz2) : GRX kd2 ln2 mem2 sz2 (set2 (set2 mem 97 (mem 35 88) k) 35 88 (mem 35 88 + 1)) := by
  have hs := hI.1.2.2.2.2.1
  have hn := hI.shs
  have hz := hE2.1
  have hl : mem1 34 1 < sz := by rw [hf1 34 1 (by omega)]; exact hI.g34.1.2.2.2.2.1
  have hat := hA.at hl (by omega) (b := e) (by omega)
  have har := hA.at hl (by omega) (b := e + 1) (by omega)
  have er := hE2.2 (e + 1) (by omega)
  refine ⟨tgN tg sz sz1 34 (mem 35 88) id, hI.2.2.add34 hI.2.1 hs (by omega) hE1 hf1 hA hz2 hE2 (by omega) hke tgN_x (tgN_1 (by omega)) ?_ ?_ (fun x j q1 q2 => ?_) ⟨?_, ?_, ?_, fun j u1 u2 => ?_⟩⟩
  · rw [tgN_n (by omega), he, Int.sub_self]; exact Int.add_zero _
  · exact s2_s
  · unfold set2
    rw [if_neg (by omega), if_neg (by omega)]
  · rw [hat 0, hfl.1, s2_a (by decide), s2_s]
  · rw [hat 1, hfl.2.1]
    exact ⟨er.1.trans hr.1, er.2.trans hr.2.1, by omega, by omega, by rw [tgN_n (by omega), he]; show _ + ((sz : Int) + 1 - sz) = _; omega⟩
  · rw [hat 2, hfl.2.2, s2_a (by decide), s2_a (by decide)]; exact (hI.shf _ (by omega) (by omega)).symm
  · rw [hat 1, hfl.2.1, har j, hr.2.2 j, s2_a (by decide), s2_a (by decide)]; exact (hI.shz _ (by omega) (by omega)).symm
theorem GRX.other {p : Int} (hI : INV kd ln mem sz tg) (hc : isPg mem p ∧ mem 35 84 ≠ 8) (hE1 : EXT kd ln sz kd1 ln1 sz1) (hf1 : ∀ b j : Int, b < sz → mem1 b j = mem b j) (he : e = sz) (hs1 : sz1 = sz + 2) (hke : kd1 e = 11) (hfl : mem1 e 0 = p ∧ mem1 e 1 = e + 1) (hr : kd1 (e + 1) = 21 ∧ ln1 (e + 1) = 40 ∧ ∀ j : Int, 0 ≤ j → j < 40 → mem1 (e + 1) j = -1) (hA : ADDP ln1 mem1 sz1 32 e kd2 ln2 mem2) (hz2 : mem2 32 1 < sz2) (hE2 : EXT kd1 ln1 sz1 kd2 ln2 sz2) : GRX kd2 ln2 mem2 sz2 (set2 (set2 mem 94 (mem 35 84) p) 35 84 (mem 35 84 + 1)) := by
  have hs := hI.1.2.2.2.2.1
  have hn := hI.ots
  have hz := hE2.1
  have hl : mem1 32 1 < sz := by rw [hf1 32 1 (by omega)]; exact hI.g32.1.2.2.2.2.1
  have hat := hA.at hl (by omega) (b := e) (by omega)
  have har := hA.at hl (by omega) (b := e + 1) (by omega)
  have er := hE2.2 (e + 1) (by omega)
  refine ⟨tgN tg sz sz1 32 (mem 35 84) id, hI.2.2.add32 hI.2.1 hs (by omega) hE1 hf1 hA hz2 hE2 (by omega) hke tgN_x (tgN_1 (by omega)) ?_ ?_ (fun x j q1 q2 => ?_) ⟨?_, ?_, fun n u1 u2 => ?_⟩⟩
  · rw [tgN_n (by omega), he, Int.sub_self]; exact Int.add_zero _
  · exact s2_s
  · unfold set2
    rw [if_neg (by omega), if_neg (by omega)]
  · rw [hat 0, hfl.1, s2_a (by decide), s2_s]
  · rw [hat 1, hfl.2]
    exact ⟨er.1.trans hr.1, er.2.trans hr.2.1, by omega, by omega, by rw [tgN_n (by omega), he]; show _ + ((sz : Int) + 1 - sz) = _; omega⟩
  · have e0 := hI.otf (40 * mem 35 84 + n) (by omega) (by omega)
    rw [hat 1, hfl.2, har n, hr.2.2 n u1 u2, s2_a (by decide), s2_a (by decide), e0]
    exact ⟨⟨fun _ => rfl, fun _ => rfl⟩, fun u => absurd rfl u⟩
theorem GRX.err {p n o w : Int} (hI : INV kd ln mem sz tg) (hc : errC mem p n) (hE1 : EXT kd ln sz kd1 ln1 sz1) (hf1 : ∀ b j : Int, b < sz → mem1 b j = mem b j) (he : e = sz) (hs1 : sz1 = sz + 1) (hke : kd1 e = 3) (hfl : mem1 e 0 = p ∧ mem1 e 1 = n ∧ mem1 e 2 = o ∧ mem1 e 3 = w) (hA : ADDP ln1 mem1 sz1 33 e kd2 ln2 mem2) (hz2 : mem2 33 1 < sz2) (hE2 : EXT kd1 ln1 sz1 kd2 ln2 sz2) : GRX kd2 ln2 mem2 sz2 (errM mem p n o w) := by
  have hs := hI.1.2.2.2.2.1
  have hn := hI.ers
  have hl : mem1 33 1 < sz := by rw [hf1 33 1 (by omega)]; exact hI.g33.1.2.2.2.2.1
  have hat := hA.at hl (by omega) (b := e) (by omega)
  refine ⟨tgN tg sz sz1 33 (mem 35 80) id, hI.2.2.add33 hI.2.1 hs (by omega) hE1 hf1 hA hz2 hE2 (by omega) hke tgN_x (tgN_1 (by omega)) ?_ ?_ (fun x j q1 q2 => ?_) ⟨?_, ?_, ?_, ?_⟩⟩
  · rw [tgN_n (by omega), he, Int.sub_self]; exact Int.add_zero _
  · unfold errM; exact s2_s
  · unfold errM set2
    rw [if_neg (by omega), if_neg (by omega), if_neg (by omega), if_neg (by omega), if_neg (by omega)]
  · rw [hat 0, hfl.1]; unfold errM; rw [s2_a (by decide), s2_a (by decide), s2_a (by decide), s2_a (by decide), s2_s]
  · rw [hat 1, hfl.2.1]; unfold errM; rw [s2_a (by decide), s2_a (by decide), s2_a (by decide), s2_s]
  · rw [hat 2, hfl.2.2.1]; unfold errM; rw [s2_a (by decide), s2_a (by decide), s2_s]
  · rw [hat 3, hfl.2.2.2]; unfold errM; rw [s2_a (by decide), s2_s]
end
set_option maxHeartbeats 4000000 in
set_option maxRecDepth 100000 in
theorem c_X11_sheet {l : Launch} {g : GP} (hG : GH g) {kd : Int → Nat} {ln : Int → Int} {mem : Int → Int → Int} {sz : Nat} (hK : HK kd ln) (hR : HR mem) (k : Int) (tg : Int → Int) (hI : INV kd ln mem sz tg) (hEM : EMP g) (mi : Nat) (hMI : va_Mi "[Ljava/lang/Object;" mi (gs g)) (h_k : InI k) : MT l g yX11_sheet cX11_sheet 2 (some .int) 7 3 143 [(2, 3), (0, k)] kd ln mem sz (pXR 0 (fun v kd' ln' mem' sz' => HR mem' ∧ ((((0 ≤ k ∧ k ≤ 2) ∧ mem 35 88 ≠ 8) → v = mem 35 88 ∧ GRX kd' ln' mem' sz' (set2 (set2 mem 97 (mem 35 88) k) 35 88 (mem 35 88 + 1))) ∧ (¬ ((0 ≤ k ∧ k ≤ 2) ∧ mem 35 88 ≠ 8) → v = -1 ∧ GRX kd' ln' mem' sz' mem) ∧ MKP mem mem')) kd ln sz) := by
  refine MT_of hG (by decide +kernel) (Nat.le_of_ble_eq_true rfl) (fun z hF hr hn => ?_)
  obtain ⟨⟨q0, q1, q2, q3, q4, q5⟩, u0, u2, u46, u89, usz⟩ := hI.num
  have n34 : 0 ≤ mem 35 88 ∧ mem 35 88 ≤ 8 := ⟨hI.shs.1, hI.shs.2.1⟩
  obtain ⟨e34, k34, r34, b34, c34⟩ := hI.g34.ls
  refine jblk hF [(.iload_n 1, 1), (.iconst 0, 1), (.iconst 2, 1)] (by decide +kernel) (pc' := 3) (lo' := [(0, (2, 3)), (1, (0, k))]) (st' := [(0, 2), (0, 0), (0, k)]) rfl ?_
  refine jcallS hF (c_X11_within hG k 0 2 (by omega) (by decide) (by decide)) MW_X11_within wd_391 wd_392 (by decide +kernel) [] rfl rfl (by decide) (Nat.le_of_ble_eq_true rfl) (by decide) (kB (fun h_1 => ?_) (fun h_1 => ?_))
  · refine jif_eq hF (off := 15) 21 (by decide +kernel) (by decide) (by decide) (fun h => absurd h (by decide)) (fun _ => ?_)
    refine jblk hF [(.aload_n 0, 1)] (by decide +kernel) (pc' := 10) (lo' := [(0, (2, 3)), (1, (0, k))]) (st' := [(2, 3)]) rfl ?_
    refine jget hF 12 19 2 19 rfl (by decide) (by decide) rfl wd_345 (by decide +kernel) (by exact hK.k3) ?_
    rw [HR.r3_19 hR]
    refine jcallV hF (c_Jx4a65c_size_8abf5 hG 34 (by first | assumption | omega)) MW_Jx4a65c_size_8abf5 0 (by decide) (by exact hK.k34) wd_410 wd_411 wd_412 (by decide +kernel) [] rfl rfl (by decide) (Nat.le_of_ble_eq_true rfl) (by decide) (kV ?_)
    rw [e34]
    refine jblk hF [(.bipush 8, 2)] (by decide +kernel) (pc' := 18) (lo' := [(0, (2, 3)), (1, (0, k))]) (st' := [(0, 8), (0, mem 35 88)]) rfl ?_
    refine jicmp_lt hF (off := 5) 23 (by decide +kernel) (by decide) (by omega) (by decide) (fun h_3 => ?_) (fun h_3 => ?_)
    · have hcc : (0 ≤ k ∧ k ≤ 2) ∧ mem 35 88 ≠ 8 := by omega
      refine jblk hF [(.aload_n 0, 1)] (by decide +kernel) (pc' := 24) (lo' := [(0, (2, 3)), (1, (0, k))]) (st' := [(2, 3)]) rfl ?_
      refine jget hF 12 19 2 19 rfl (by decide) (by decide) rfl wd_345 (by decide +kernel) (by exact hK.k3) ?_
      rw [HR.r3_19 hR]
      refine jnew hF 8 (by decide) okT_8 wd_1235 wd_1236 wd_126 (by decide +kernel) ⟨Nat.le_of_ble_eq_true rfl, Nat.le_of_ble_eq_true rfl⟩ ?_
      obtain ⟨kd_4, hkd_4⟩ : ∃ q : Int → Nat, q = upK kd ((sz : Nat) : Int) (9) := ⟨_, rfl⟩
      obtain ⟨m_4, hm_4⟩ : ∃ q : Int → Int → Int, q = newO 8 mem ((sz : Nat) : Int) := ⟨_, rfl⟩
      obtain ⟨sz_4, hsz_4⟩ : ∃ q : Nat, q = sz + 1 := ⟨_, rfl⟩
      obtain ⟨a_4, ha_4⟩ : ∃ q : Int, q = ((sz : Nat) : Int) := ⟨_, rfl⟩
      rw [← hkd_4, ← hm_4, ← hsz_4]
      rw [← ha_4]
      have hk_4 : kd_4 a_4 = 9 := by rw [ha_4, hkd_4]; exact if_pos rfl
      have hE_4 : EXT kd ln sz kd_4 ln sz_4 := by rw [hsz_4, hkd_4]; exact EXT.k _
      have hEE_4 : EXT kd ln sz kd_4 ln sz_4 := (EXT.rf).tr hE_4
      have hK_4 : HK kd_4 ln := hK.ext hE_4 (by omega)
      have hR_m_4 : HR m_4 := HR.of hR (fun a k q => by rw [hm_4]; exact newO_o _ (by omega))
      have hmo_4 : ∀ b j : Int, b ≠ a_4 → m_4 b j = mem b j := fun b j q => by rw [hm_4]; exact newO_o j (by rw [← ha_4]; exact q)
      have hmn_4 : ∀ j : Int, m_4 a_4 j = dfl 8 j.toNat := fun j => by rw [hm_4, ha_4]; exact newO_s j
      have hmoA := hmo_4
      have hmnA := hmn_4
      have hEA := hE_4
      have hkA := hk_4
      have haA := ha_4
      have hszA := hsz_4
      have hEEA := hEE_4
      refine jblk hF [(.dup, 1), (.iload_n 1, 1)] (by decide +kernel) (pc' := 32) (lo' := [(0, (2, 3)), (1, (0, k))]) (st' := [(0, k), (2, a_4), (2, a_4), (2, 34)]) rfl ?_
      refine jcallI hF (c_X7_init hG a_4 k (by first | assumption | omega) (by omega) (by omega)) MW_X7_init rfl (by first | assumption | omega) wd_1237 wd_1238 (by decide +kernel) [(2, a_4), (2, 34)] rfl rfl (by decide) (Nat.le_of_ble_eq_true rfl) ⟨Nat.le_of_ble_eq_true rfl, Nat.le_of_ble_eq_true rfl⟩ (kXV (fun kd_5 ln_5 m_5 sz_5 hE_5 h_5 => ?_))
      have hEE_5 : EXT kd ln sz kd_5 ln_5 sz_5 := (hEE_4).tr hE_5
      have hK_5 : HK kd_5 ln_5 := hK_4.ext hE_5 (by omega)
      obtain ⟨t1, t2, t3, t4, t5, t6, t7, t8⟩ := h_5
      have hsn : ((sz_4 : Nat) : Int) = a_4 + 1 := by omega
      rw [hsn] at t3 t5 t6 t7 t8
      have hE1x := hEEA.tr hE_5
      have hf1x : ∀ b j : Int, b < sz → m_5 b j = mem b j := fun b j u => (t8 b j (by omega) (by omega)).trans (hmoA b j (by omega))
      have hR_m_5 : HR m_5 := HR.of hR (fun x k u => hf1x x k (by omega))
      have hke := (hE_5.2 a_4 (by omega)).1.trans hkA
      have hlo := hI.g34.lso hE1x hf1x wx_2269 (by decide) (by omega)
      refine jcallV hF (c_Jx4a65c_add_9ea2d hG 34 a_4 (by assumption) (by exact mi) (by assumption) (by exact hlo.1) (by exact hlo.2) (by exact 8) (by decide) (by first | assumption | exact hke) (by omega) (by exact wx_2269)) MW_Jx4a65c_add_9ea2d 0 (by decide) (by exact hK_5.k34) wd_430 wd_431 wd_432 (by decide +kernel) [] rfl rfl (by decide) (Nat.le_of_ble_eq_true rfl) (by decide) (kXR (fun v_6 kd_6 ln_6 m_6 sz_6 hE_6 h_6 => ?_))
      have hEE_6 : EXT kd ln sz kd_6 ln_6 sz_6 := (hEE_5).tr hE_6
      have hK_6 : HK kd_6 ln_6 := hK_5.ext hE_6 (by omega)
      obtain ⟨hv1, hAd, hAz⟩ := h_6
      have hE2x := hE_6
      have hfx : ∀ a j : Int, (a < 27 ∨ (34 < a ∧ a ≤ 100)) → m_6 a j = mem a j := hAd.mkp (hI.g34.2.1.imp id (fun u => u.1)) hf1x (by omega) (by omega) (by decide)
      have hR_m_6 : HR m_6 := HR.of hR (fun x k u => hfx x k (by omega))
      have hsz2 : m_6 34 2 = mem 35 88 + 1 := by rw [hAd.2.2.2.2.2.1, hf1x 34 2 (by omega), e34]
      have hmk : MKP mem m_6 := MKP.of hI hfx
      have hkLx : kd_6 34 = 1 := ((hE1x.tr hE2x).2 34 (by omega)).1.trans k34
      refine jblk hF [(.pop, 1), (.aload_n 0, 1)] (by decide +kernel) (pc' := 40) (lo' := [(0, (2, 3)), (1, (0, k))]) (st' := [(2, 3)]) rfl ?_
      refine jget hF 12 19 2 19 rfl (by decide) (by decide) rfl wd_345 (by decide +kernel) (by exact hK_6.k3) ?_
      rw [HR.r3_19 hR_m_6]
      refine jcallV hF (c_Jx4a65c_size_8abf5 hG 34 (by first | assumption | omega)) MW_Jx4a65c_size_8abf5 0 (by decide) (by exact hK_6.k34) wd_410 wd_411 wd_412 (by decide +kernel) [] rfl rfl (by decide) (Nat.le_of_ble_eq_true rfl) (by decide) (kV ?_)
      rw [hsz2]
      refine jblk hF [(.iconst 1, 1), (.isub, 1)] (by decide +kernel) (pc' := 48) (lo' := [(0, (2, 3)), (1, (0, k))]) (st' := [(0, (mem 35 88 + 1) - 1)]) rfl ?_
      refine jwiden (k := 3) (n := 143) (Nat.le_of_ble_eq_true rfl) (Nat.le_of_ble_eq_true rfl) ?_
      refine jiret hF hr (by decide +kernel) ?_
      exact ⟨_, rfl, hEE_6, ⟨hR_m_6, by exact ⟨fun _ => ⟨by omega, GRX.sheet hI hcc hE1x hf1x haA (by omega) hke ⟨t2, t3, t4⟩ ⟨t5, t6, t7⟩ hAd hAz hE2x⟩, fun u => absurd hcc u, hmk⟩⟩⟩
    · have hng : ¬ ((0 ≤ k ∧ k ≤ 2) ∧ mem 35 88 ≠ 8) := by omega
      refine jblk hF [(.iconst (-1), 1)] (by decide +kernel) (pc' := 22) (lo' := [(0, (2, 3)), (1, (0, k))]) (st' := [(0, (-1))]) rfl ?_
      refine jwiden (k := 3) (n := 143) (Nat.le_of_ble_eq_true rfl) (Nat.le_of_ble_eq_true rfl) ?_
      refine jiret hF hr (by decide +kernel) ?_
      exact ⟨_, rfl, EXT.rf, ⟨hR, by exact ⟨fun u => absurd u hng, fun _ => ⟨rfl, ⟨tg, hI.2.2⟩⟩, MKP.rf hI⟩⟩⟩
  · refine jif_eq hF (off := 15) 21 (by decide +kernel) (by decide) (by decide) (fun _ => ?_) (fun h => absurd h (by decide))
    have hng : ¬ ((0 ≤ k ∧ k ≤ 2) ∧ mem 35 88 ≠ 8) := by omega
    refine jblk hF [(.iconst (-1), 1)] (by decide +kernel) (pc' := 22) (lo' := [(0, (2, 3)), (1, (0, k))]) (st' := [(0, (-1))]) rfl ?_
    refine jwiden (k := 3) (n := 143) (Nat.le_of_ble_eq_true rfl) (Nat.le_of_ble_eq_true rfl) ?_
    refine jiret hF hr (by decide +kernel) ?_
    exact ⟨_, rfl, EXT.rf, ⟨hR, by exact ⟨fun u => absurd u hng, fun _ => ⟨rfl, ⟨tg, hI.2.2⟩⟩, MKP.rf hI⟩⟩⟩
set_option maxHeartbeats 4000000 in
set_option maxRecDepth 100000 in
theorem c_X11_other {l : Launch} {g : GP} (hG : GH g) {kd : Int → Nat} {ln : Int → Int} {mem : Int → Int → Int} {sz : Nat} (hK : HK kd ln) (hR : HR mem) (p : Int) (tg : Int → Int) (hI : INV kd ln mem sz tg) (hEM : EMP g) (mi : Nat) (hMI : va_Mi "[Ljava/lang/Object;" mi (gs g)) (h_p : InI p) : MT l g yX11_other cX11_other 3 (some .int) 7 3 143 [(2, 3), (0, p)] kd ln mem sz (pXR 0 (fun v kd' ln' mem' sz' => HR mem' ∧ (((isPg mem p ∧ mem 35 84 ≠ 8) → v = mem 35 84 ∧ GRX kd' ln' mem' sz' (set2 (set2 mem 94 (mem 35 84) p) 35 84 (mem 35 84 + 1))) ∧ (¬ (isPg mem p ∧ mem 35 84 ≠ 8) → v = -1 ∧ GRX kd' ln' mem' sz' mem) ∧ MKP mem mem')) kd ln sz) := by
  refine MT_of hG (by decide +kernel) (Nat.le_of_ble_eq_true rfl) (fun z hF hr hn => ?_)
  obtain ⟨⟨q0, q1, q2, q3, q4, q5⟩, u0, u2, u46, u89, usz⟩ := hI.num
  have n32 : 0 ≤ mem 35 84 ∧ mem 35 84 ≤ 8 := ⟨hI.ots.1, hI.ots.2.1⟩
  have n29 : 0 ≤ mem 35 33 ∧ mem 35 33 ≤ 12 := ⟨hI.pgs.1, hI.pgs.2.1⟩
  obtain ⟨e32, k32, r32, b32, c32⟩ := hI.g32.ls
  obtain ⟨e29, k29, r29, b29, c29⟩ := hI.g29.ls
  refine jblk hF [(.aload_n 0, 1), (.iload_n 1, 1)] (by decide +kernel) (pc' := 2) (lo' := [(0, (2, 3)), (1, (0, p))]) (st' := [(0, p), (2, 3)]) rfl ?_
  refine jcallV hF (c_X11_pageAt hG hK hR p (by exact tg) (by assumption) (by omega)) MW_X11_pageAt 12 (by decide) (by exact hK.k3) wd_851 wd_853 wd_p24 (by decide +kernel) [] rfl rfl (by decide) (Nat.le_of_ble_eq_true rfl) (by decide) (kR (fun v_1 h_2 => ?_))
  have hv := h_2
  refine jnull hF (off := 15) 20 (by decide +kernel) (by decide) (fun h_3 => ?_) (fun h_3 => ?_)
  · have hng : ¬ (isPg mem p ∧ mem 35 84 ≠ 8) := fun u => by first | omega | exact (hv.2 (by omega)).1 u.1
    refine jblk hF [(.iconst (-1), 1)] (by decide +kernel) (pc' := 21) (lo' := [(0, (2, 3)), (1, (0, p))]) (st' := [(0, (-1))]) rfl ?_
    refine jwiden (k := 3) (n := 143) (Nat.le_of_ble_eq_true rfl) (Nat.le_of_ble_eq_true rfl) ?_
    refine jiret hF hr (by decide +kernel) ?_
    exact ⟨_, rfl, EXT.rf, ⟨hR, by exact ⟨fun u => absurd u hng, fun _ => ⟨rfl, ⟨tg, hI.2.2⟩⟩, MKP.rf hI⟩⟩⟩
  · refine jblk hF [(.aload_n 0, 1)] (by decide +kernel) (pc' := 9) (lo' := [(0, (2, 3)), (1, (0, p))]) (st' := [(2, 3)]) rfl ?_
    refine jget hF 12 17 2 17 rfl (by decide) (by decide) rfl wd_343 (by decide +kernel) (by exact hK.k3) ?_
    rw [HR.r3_17 hR]
    refine jcallV hF (c_Jx4a65c_size_8abf5 hG 32 (by first | assumption | omega)) MW_Jx4a65c_size_8abf5 0 (by decide) (by exact hK.k32) wd_410 wd_411 wd_412 (by decide +kernel) [] rfl rfl (by decide) (Nat.le_of_ble_eq_true rfl) (by decide) (kV ?_)
    rw [e32]
    refine jblk hF [(.bipush 8, 2)] (by decide +kernel) (pc' := 17) (lo' := [(0, (2, 3)), (1, (0, p))]) (st' := [(0, 8), (0, mem 35 84)]) rfl ?_
    refine jicmp_lt hF (off := 5) 22 (by decide +kernel) (by decide) (by omega) (by decide) (fun h_4 => ?_) (fun h_4 => ?_)
    · have hcc : isPg mem p ∧ mem 35 84 ≠ 8 := ⟨(hv.1 (by omega)).1, by omega⟩
      refine jnew hF 10 (by decide) okT_10 wd_1164 wd_1165 wd_124 (by decide +kernel) ⟨Nat.le_of_ble_eq_true rfl, Nat.le_of_ble_eq_true rfl⟩ ?_
      obtain ⟨kd_5, hkd_5⟩ : ∃ q : Int → Nat, q = upK kd ((sz : Nat) : Int) (11) := ⟨_, rfl⟩
      obtain ⟨m_5, hm_5⟩ : ∃ q : Int → Int → Int, q = newO 10 mem ((sz : Nat) : Int) := ⟨_, rfl⟩
      obtain ⟨sz_5, hsz_5⟩ : ∃ q : Nat, q = sz + 1 := ⟨_, rfl⟩
      obtain ⟨a_5, ha_5⟩ : ∃ q : Int, q = ((sz : Nat) : Int) := ⟨_, rfl⟩
      rw [← hkd_5, ← hm_5, ← hsz_5]
      rw [← ha_5]
      have hk_5 : kd_5 a_5 = 11 := by rw [ha_5, hkd_5]; exact if_pos rfl
      have hE_5 : EXT kd ln sz kd_5 ln sz_5 := by rw [hsz_5, hkd_5]; exact EXT.k _
      have hEE_5 : EXT kd ln sz kd_5 ln sz_5 := (EXT.rf).tr hE_5
      have hK_5 : HK kd_5 ln := hK.ext hE_5 (by omega)
      have hR_m_5 : HR m_5 := HR.of hR (fun a k q => by rw [hm_5]; exact newO_o _ (by omega))
      have hmo_5 : ∀ b j : Int, b ≠ a_5 → m_5 b j = mem b j := fun b j q => by rw [hm_5]; exact newO_o j (by rw [← ha_5]; exact q)
      have hmn_5 : ∀ j : Int, m_5 a_5 j = dfl 10 j.toNat := fun j => by rw [hm_5, ha_5]; exact newO_s j
      have hmoA := hmo_5
      have hmnA := hmn_5
      have hEA := hE_5
      have hkA := hk_5
      have haA := ha_5
      have hszA := hsz_5
      have hEEA := hEE_5
      refine jblk hF [(.dup, 1), (.iload_n 1, 1)] (by decide +kernel) (pc' := 27) (lo' := [(0, (2, 3)), (1, (0, p))]) (st' := [(0, p), (2, a_5), (2, a_5)]) rfl ?_
      refine jcallI hF (c_X9_init hG a_5 p (by first | assumption | omega) (by omega) (by omega)) MW_X9_init rfl (by first | assumption | omega) wd_1166 wd_1167 (by decide +kernel) [(2, a_5)] rfl rfl (by decide) (Nat.le_of_ble_eq_true rfl) ⟨Nat.le_of_ble_eq_true rfl, Nat.le_of_ble_eq_true rfl⟩ (kXV (fun kd_6 ln_6 m_6 sz_6 hE_6 h_6 => ?_))
      have hEE_6 : EXT kd ln sz kd_6 ln_6 sz_6 := (hEE_5).tr hE_6
      have hK_6 : HK kd_6 ln_6 := hK_5.ext hE_6 (by omega)
      obtain ⟨t1, t2, t3, t4, t5, t6, t7⟩ := h_6
      have hsn : ((sz_5 : Nat) : Int) = a_5 + 1 := by omega
      rw [hsn] at t3 t4 t5 t6 t7
      have hE1x := hEEA.tr hE_6
      have hf0x : ∀ b j : Int, b < sz → m_6 b j = mem b j := fun b j u => (t7 b j (by omega) (by omega)).trans (hmoA b j (by omega))
      have hR_m_6 : HR m_6 := HR.of hR (fun x k u => hf0x x k (by omega))
      have hke := (hE_6.2 a_5 (by omega)).1.trans hkA
      refine jblk hF [(.astore_n 2, 1), (.aload_n 2, 1)] (by decide +kernel) (pc' := 32) (lo' := [(2, (2, a_5)), (0, (2, 3)), (1, (0, p))]) (st' := [(2, a_5)]) rfl ?_
      refine jget hF 10 1 2 1 rfl (by decide) (by decide) rfl wd_1173 (by decide +kernel) (by first | exact hke | assumption | omega) ?_
      refine jldc2 hF (-1) (cst_l wd_512 (by decide)) (by decide +kernel) ?_
      refine jcallS hF (c_J7_fill_d0a16 hG (m_6 a_5 1) (-1) (by (rw [t3]; exact t4)) (by (rw [t3]; omega)) (by (rw [t3]; omega))) MW_J7_fill_d0a16 wd_1218 wd_808 (by decide +kernel) [] rfl rfl (by decide) (Nat.le_of_ble_eq_true rfl) (by decide) (kMV (fun m_7 h_8 => ?_))
      have hfl := h_8
      rw [t3, t5] at hfl
      have hf1x : ∀ b j : Int, b < sz → m_7 b j = mem b j := fun b j u => by rw [hfl]; exact (if_neg (by omega)).trans (hf0x b j u)
      have hR_m_7 : HR m_7 := HR.of hR (fun x k u => hf1x x k (by omega))
      have hlo := hI.g32.lso hE1x hf1x wx_2267 (by decide) (by omega)
      refine jblk hF [(.aload_n 0, 1)] (by decide +kernel) (pc' := 42) (lo' := [(2, (2, a_5)), (0, (2, 3)), (1, (0, p))]) (st' := [(2, 3)]) rfl ?_
      refine jget hF 12 17 2 17 rfl (by decide) (by decide) rfl wd_343 (by decide +kernel) (by exact hK_6.k3) ?_
      rw [HR.r3_17 hR_m_7]
      refine jblk hF [(.aload_n 2, 1)] (by decide +kernel) (pc' := 46) (lo' := [(2, (2, a_5)), (0, (2, 3)), (1, (0, p))]) (st' := [(2, a_5), (2, 32)]) rfl ?_
      refine jcallV hF (c_Jx4a65c_add_9ea2d hG 32 a_5 (by assumption) (by exact mi) (by assumption) (by exact hlo.1) (by exact hlo.2) (by exact 10) (by decide) (by first | assumption | exact hke) (by omega) (by exact wx_2267)) MW_Jx4a65c_add_9ea2d 0 (by decide) (by exact hK_6.k32) wd_430 wd_431 wd_432 (by decide +kernel) [] rfl rfl (by decide) (Nat.le_of_ble_eq_true rfl) (by decide) (kXR (fun v_9 kd_9 ln_9 m_9 sz_9 hE_9 h_9 => ?_))
      have hEE_9 : EXT kd ln sz kd_9 ln_9 sz_9 := (hEE_6).tr hE_9
      have hK_9 : HK kd_9 ln_9 := hK_6.ext hE_9 (by omega)
      obtain ⟨hv1, hAd, hAz⟩ := h_9
      have hE2x := hE_9
      have hfx : ∀ a j : Int, (a < 27 ∨ (34 < a ∧ a ≤ 100)) → m_9 a j = mem a j := hAd.mkp (hI.g32.2.1.imp id (fun u => u.1)) hf1x (by omega) (by omega) (by decide)
      have hR_m_9 : HR m_9 := HR.of hR (fun x k u => hfx x k (by omega))
      have hsz2 : m_9 32 2 = mem 35 84 + 1 := by rw [hAd.2.2.2.2.2.1, hf1x 32 2 (by omega), e32]
      have hmk : MKP mem m_9 := MKP.of hI hfx
      have hkLx : kd_9 32 = 1 := ((hE1x.tr hE2x).2 32 (by omega)).1.trans k32
      refine jblk hF [(.pop, 1), (.aload_n 0, 1)] (by decide +kernel) (pc' := 51) (lo' := [(2, (2, a_5)), (0, (2, 3)), (1, (0, p))]) (st' := [(2, 3)]) rfl ?_
      refine jget hF 12 17 2 17 rfl (by decide) (by decide) rfl wd_343 (by decide +kernel) (by exact hK_9.k3) ?_
      rw [HR.r3_17 hR_m_9]
      refine jcallV hF (c_Jx4a65c_size_8abf5 hG 32 (by first | assumption | omega)) MW_Jx4a65c_size_8abf5 0 (by decide) (by exact hK_9.k32) wd_410 wd_411 wd_412 (by decide +kernel) [] rfl rfl (by decide) (Nat.le_of_ble_eq_true rfl) (by decide) (kV ?_)
      rw [hsz2]
      refine jblk hF [(.iconst 1, 1), (.isub, 1)] (by decide +kernel) (pc' := 59) (lo' := [(2, (2, a_5)), (0, (2, 3)), (1, (0, p))]) (st' := [(0, (mem 35 84 + 1) - 1)]) rfl ?_
      refine jwiden (k := 3) (n := 143) (Nat.le_of_ble_eq_true rfl) (Nat.le_of_ble_eq_true rfl) ?_
      refine jiret hF hr (by decide +kernel) ?_
      exact ⟨_, rfl, hEE_9, ⟨hR_m_9, by exact ⟨fun _ => ⟨by omega, GRX.other hI hcc hE1x hf1x haA (by omega) hke ⟨by rw [hfl]; exact (if_neg (by omega)).trans t2, by rw [hfl]; exact (if_neg (by omega)).trans t3⟩ ⟨t4, t5, fun j u1 u2 => by rw [hfl]; exact if_pos ⟨rfl, u1, u2⟩⟩ hAd hAz hE2x⟩, fun u => absurd hcc u, hmk⟩⟩⟩
    · have hng : ¬ (isPg mem p ∧ mem 35 84 ≠ 8) := fun u => by first | omega | exact (hv.2 (by omega)).1 u.1
      refine jblk hF [(.iconst (-1), 1)] (by decide +kernel) (pc' := 21) (lo' := [(0, (2, 3)), (1, (0, p))]) (st' := [(0, (-1))]) rfl ?_
      refine jwiden (k := 3) (n := 143) (Nat.le_of_ble_eq_true rfl) (Nat.le_of_ble_eq_true rfl) ?_
      refine jiret hF hr (by decide +kernel) ?_
      exact ⟨_, rfl, EXT.rf, ⟨hR, by exact ⟨fun u => absurd u hng, fun _ => ⟨rfl, ⟨tg, hI.2.2⟩⟩, MKP.rf hI⟩⟩⟩
set_option maxHeartbeats 4000000 in
set_option maxRecDepth 100000 in
theorem c_X11_erratum {l : Launch} {g : GP} (hG : GH g) {kd : Int → Nat} {ln : Int → Int} {mem : Int → Int → Int} {sz : Nat} (hK : HK kd ln) (hR : HR mem) (p n o w : Int) (tg : Int → Int) (hI : INV kd ln mem sz tg) (hEM : EMP g) (mi : Nat) (hMI : va_Mi "[Ljava/lang/Object;" mi (gs g)) (h_p : InI p) (h_n : InI n) : MT l g yX11_erratum cX11_erratum 7 (some .int) 7 2 104 [(2, 3), (0, p), (0, n), (1, o), (1, w)] kd ln mem sz (pXR 0 (fun v kd' ln' mem' sz' => HR mem' ∧ (((errC mem p n) → v = mem 35 80 ∧ GRX kd' ln' mem' sz' (errM mem p n o w)) ∧ (¬ (errC mem p n) → v = -1 ∧ GRX kd' ln' mem' sz' mem) ∧ MKP mem mem')) kd ln sz) := by
  refine MT_of hG (by decide +kernel) (Nat.le_of_ble_eq_true rfl) (fun z hF hr hn => ?_)
  obtain ⟨⟨q0, q1, q2, q3, q4, q5⟩, u0, u2, u46, u89, usz⟩ := hI.num
  have n33 : 0 ≤ mem 35 80 ∧ mem 35 80 ≤ 40 := ⟨hI.ers.1, hI.ers.2.1⟩
  have n29 : 0 ≤ mem 35 33 ∧ mem 35 33 ≤ 12 := ⟨hI.pgs.1, hI.pgs.2.1⟩
  obtain ⟨e33, k33, r33, b33, c33⟩ := hI.g33.ls
  obtain ⟨e29, k29, r29, b29, c29⟩ := hI.g29.ls
  refine jblk hF [(.aload_n 0, 1), (.iload_n 1, 1), (.iload_n 2, 1)] (by decide +kernel) (pc' := 3) (lo' := [(0, (2, 3)), (1, (0, p)), (2, (0, n)), (3, (1, o)), (5, (1, w))]) (st' := [(0, n), (0, p), (2, 3)]) rfl ?_
  refine jcallV hF (c_X11_pageWith hG hK hR p n (by exact tg) (by assumption) (by omega) (by omega)) MW_X11_pageWith 12 (by decide) (by exact hK.k3) wd_869 wd_871 wd_p25 (by decide +kernel) [] rfl rfl (by decide) (Nat.le_of_ble_eq_true rfl) (by decide) (kR (fun v_1 h_2 => ?_))
  have hv := h_2
  refine jnull hF (off := 15) 21 (by decide +kernel) (by decide) (fun h_3 => ?_) (fun h_3 => ?_)
  · have hng : ¬ errC mem p n := fun u => by first | omega | exact (hv.2 (by omega)).1 u.1
    refine jblk hF [(.iconst (-1), 1)] (by decide +kernel) (pc' := 22) (lo' := [(0, (2, 3)), (1, (0, p)), (2, (0, n)), (3, (1, o)), (5, (1, w))]) (st' := [(0, (-1))]) rfl ?_
    refine jwiden (k := 2) (n := 104) (Nat.le_of_ble_eq_true rfl) (Nat.le_of_ble_eq_true rfl) ?_
    refine jiret hF hr (by decide +kernel) ?_
    exact ⟨_, rfl, EXT.rf, ⟨hR, by exact ⟨fun u => absurd u hng, fun _ => ⟨rfl, ⟨tg, hI.2.2⟩⟩, MKP.rf hI⟩⟩⟩
  · refine jblk hF [(.aload_n 0, 1)] (by decide +kernel) (pc' := 10) (lo' := [(0, (2, 3)), (1, (0, p)), (2, (0, n)), (3, (1, o)), (5, (1, w))]) (st' := [(2, 3)]) rfl ?_
    refine jget hF 12 18 2 18 rfl (by decide) (by decide) rfl wd_344 (by decide +kernel) (by exact hK.k3) ?_
    rw [HR.r3_18 hR]
    refine jcallV hF (c_Jx4a65c_size_8abf5 hG 33 (by first | assumption | omega)) MW_Jx4a65c_size_8abf5 0 (by decide) (by exact hK.k33) wd_410 wd_411 wd_412 (by decide +kernel) [] rfl rfl (by decide) (Nat.le_of_ble_eq_true rfl) (by decide) (kV ?_)
    rw [e33]
    refine jblk hF [(.bipush 40, 2)] (by decide +kernel) (pc' := 18) (lo' := [(0, (2, 3)), (1, (0, p)), (2, (0, n)), (3, (1, o)), (5, (1, w))]) (st' := [(0, 40), (0, mem 35 80)]) rfl ?_
    refine jicmp_lt hF (off := 5) 23 (by decide +kernel) (by decide) (by omega) (by decide) (fun h_4 => ?_) (fun h_4 => ?_)
    · have hcc : errC mem p n := ⟨(hv.1 (by omega)).1, by omega⟩
      refine jblk hF [(.aload_n 0, 1)] (by decide +kernel) (pc' := 24) (lo' := [(0, (2, 3)), (1, (0, p)), (2, (0, n)), (3, (1, o)), (5, (1, w))]) (st' := [(2, 3)]) rfl ?_
      refine jget hF 12 18 2 18 rfl (by decide) (by decide) rfl wd_344 (by decide +kernel) (by exact hK.k3) ?_
      rw [HR.r3_18 hR]
      refine jnew hF 2 (by decide) okT_2 wd_1183 wd_1184 wd_125 (by decide +kernel) ⟨Nat.le_of_ble_eq_true rfl, Nat.le_of_ble_eq_true rfl⟩ ?_
      obtain ⟨kd_5, hkd_5⟩ : ∃ q : Int → Nat, q = upK kd ((sz : Nat) : Int) (3) := ⟨_, rfl⟩
      obtain ⟨m_5, hm_5⟩ : ∃ q : Int → Int → Int, q = newO 2 mem ((sz : Nat) : Int) := ⟨_, rfl⟩
      obtain ⟨sz_5, hsz_5⟩ : ∃ q : Nat, q = sz + 1 := ⟨_, rfl⟩
      obtain ⟨a_5, ha_5⟩ : ∃ q : Int, q = ((sz : Nat) : Int) := ⟨_, rfl⟩
      rw [← hkd_5, ← hm_5, ← hsz_5]
      rw [← ha_5]
      have hk_5 : kd_5 a_5 = 3 := by rw [ha_5, hkd_5]; exact if_pos rfl
      have hE_5 : EXT kd ln sz kd_5 ln sz_5 := by rw [hsz_5, hkd_5]; exact EXT.k _
      have hEE_5 : EXT kd ln sz kd_5 ln sz_5 := (EXT.rf).tr hE_5
      have hK_5 : HK kd_5 ln := hK.ext hE_5 (by omega)
      have hR_m_5 : HR m_5 := HR.of hR (fun a k q => by rw [hm_5]; exact newO_o _ (by omega))
      have hmo_5 : ∀ b j : Int, b ≠ a_5 → m_5 b j = mem b j := fun b j q => by rw [hm_5]; exact newO_o j (by rw [← ha_5]; exact q)
      have hmn_5 : ∀ j : Int, m_5 a_5 j = dfl 2 j.toNat := fun j => by rw [hm_5, ha_5]; exact newO_s j
      have hmoA := hmo_5
      have hmnA := hmn_5
      have hEA := hE_5
      have hkA := hk_5
      have haA := ha_5
      have hszA := hsz_5
      have hEEA := hEE_5
      refine jblk hF [(.dup, 1), (.iload_n 1, 1), (.iload_n 2, 1), (.lload_n 3, 1), (.lload 5, 2)] (by decide +kernel) (pc' := 36) (lo' := [(0, (2, 3)), (1, (0, p)), (2, (0, n)), (3, (1, o)), (5, (1, w))]) (st' := [(1, w), (1, o), (0, n), (0, p), (2, a_5), (2, a_5), (2, 33)]) rfl ?_
      refine jcallI hF (c_X1_init hG a_5 p n o w (by first | assumption | omega) (by omega)) MW_X1_init rfl (by first | assumption | omega) wd_1185 wd_1186 (by decide +kernel) [(2, a_5), (2, 33)] rfl rfl (by decide) (Nat.le_of_ble_eq_true rfl) ⟨Nat.le_of_ble_eq_true rfl, Nat.le_of_ble_eq_true rfl⟩ (kMV (fun m_6 h_7 => ?_))
      have hfl := h_7
      have hE1x := hEEA
      have hf1x : ∀ b j : Int, b < sz → m_6 b j = mem b j := fun b j u => by rw [hfl, s2_a (by omega), s2_a (by omega), s2_a (by omega), s2_a (by omega)]; exact hmoA b j (by omega)
      have hR_m_6 : HR m_6 := HR.of hR (fun x k u => hf1x x k (by omega))
      have hke := hkA
      have hlo := hI.g33.lso hE1x hf1x wx_2268 (by decide) (by omega)
      refine jcallV hF (c_Jx4a65c_add_9ea2d hG 33 a_5 (by assumption) (by exact mi) (by assumption) (by exact hlo.1) (by exact hlo.2) (by exact 2) (by decide) (by first | assumption | exact hke) (by omega) (by exact wx_2268)) MW_Jx4a65c_add_9ea2d 0 (by decide) (by exact hK_5.k33) wd_430 wd_431 wd_432 (by decide +kernel) [] rfl rfl (by decide) (Nat.le_of_ble_eq_true rfl) (by decide) (kXR (fun v_8 kd_8 ln_8 m_8 sz_8 hE_8 h_8 => ?_))
      have hEE_8 : EXT kd ln sz kd_8 ln_8 sz_8 := (hEE_5).tr hE_8
      have hK_8 : HK kd_8 ln_8 := hK_5.ext hE_8 (by omega)
      obtain ⟨hv1, hAd, hAz⟩ := h_8
      have hE2x := hE_8
      have hfx : ∀ a j : Int, (a < 27 ∨ (34 < a ∧ a ≤ 100)) → m_8 a j = mem a j := hAd.mkp (hI.g33.2.1.imp id (fun u => u.1)) hf1x (by omega) (by omega) (by decide)
      have hR_m_8 : HR m_8 := HR.of hR (fun x k u => hfx x k (by omega))
      have hsz2 : m_8 33 2 = mem 35 80 + 1 := by rw [hAd.2.2.2.2.2.1, hf1x 33 2 (by omega), e33]
      have hmk : MKP mem m_8 := MKP.of hI hfx
      have hkLx : kd_8 33 = 1 := ((hE1x.tr hE2x).2 33 (by omega)).1.trans k33
      refine jblk hF [(.pop, 1), (.aload_n 0, 1)] (by decide +kernel) (pc' := 44) (lo' := [(0, (2, 3)), (1, (0, p)), (2, (0, n)), (3, (1, o)), (5, (1, w))]) (st' := [(2, 3)]) rfl ?_
      refine jget hF 12 18 2 18 rfl (by decide) (by decide) rfl wd_344 (by decide +kernel) (by exact hK_8.k3) ?_
      rw [HR.r3_18 hR_m_8]
      refine jcallV hF (c_Jx4a65c_size_8abf5 hG 33 (by first | assumption | omega)) MW_Jx4a65c_size_8abf5 0 (by decide) (by exact hK_8.k33) wd_410 wd_411 wd_412 (by decide +kernel) [] rfl rfl (by decide) (Nat.le_of_ble_eq_true rfl) (by decide) (kV ?_)
      rw [hsz2]
      refine jblk hF [(.iconst 1, 1), (.isub, 1)] (by decide +kernel) (pc' := 52) (lo' := [(0, (2, 3)), (1, (0, p)), (2, (0, n)), (3, (1, o)), (5, (1, w))]) (st' := [(0, (mem 35 80 + 1) - 1)]) rfl ?_
      refine jwiden (k := 2) (n := 104) (Nat.le_of_ble_eq_true rfl) (Nat.le_of_ble_eq_true rfl) ?_
      refine jiret hF hr (by decide +kernel) ?_
      exact ⟨_, rfl, hEE_8, ⟨hR_m_8, by exact ⟨fun _ => ⟨by omega, GRX.err hI hcc hE1x hf1x haA (by omega) hkA ⟨by rw [hfl, s2_k (by decide), s2_k (by decide), s2_k (by decide), s2_s], by rw [hfl, s2_k (by decide), s2_k (by decide), s2_s], by rw [hfl, s2_k (by decide), s2_s], by rw [hfl, s2_s]⟩ hAd hAz hE2x⟩, fun u => absurd hcc u, hmk⟩⟩⟩
    · have hng : ¬ errC mem p n := fun u => by first | omega | exact (hv.2 (by omega)).1 u.1
      refine jblk hF [(.iconst (-1), 1)] (by decide +kernel) (pc' := 22) (lo' := [(0, (2, 3)), (1, (0, p)), (2, (0, n)), (3, (1, o)), (5, (1, w))]) (st' := [(0, (-1))]) rfl ?_
      refine jwiden (k := 2) (n := 104) (Nat.le_of_ble_eq_true rfl) (Nat.le_of_ble_eq_true rfl) ?_
      refine jiret hF hr (by decide +kernel) ?_
      exact ⟨_, rfl, EXT.rf, ⟨hR, by exact ⟨fun u => absurd u hng, fun _ => ⟨rfl, ⟨tg, hI.2.2⟩⟩, MKP.rf hI⟩⟩⟩
end
