section
section
variable {kd kd' kd1 kd2 : Int → Nat} {ln ln' ln1 ln2 : Int → Int} {mem m mem1 mem2 : Int → Int → Int} {sz sz' sz1 sz2 : Nat} {tg : Int → Int} {p v e : Int}
/-- a page, when cells are made behind it -/
theorem PAGV.ext (hP : PAGV kd ln mem sz tg p v) (hE : EXT kd ln sz kd' ln' sz') (hf : ∀ b j : Int, b < sz → m b j = mem b j) (hI : INV kd ln mem sz tg) (hs : 101 ≤ sz) : PAGV kd' ln' m sz' tg p v := by
  obtain ⟨⟨h1, h2, h3, h4⟩, h5, h6⟩ := hP
  have hr := hI.g29.1.2.2.2.2.1
  have hq : EQS mem m := fun x j u => hf x j (by omega)
  refine ⟨⟨?_, (hE.2 v h3.2.1).1.trans h2, h3.fr hE (fun _ _ => rfl), h4⟩, h5.tr hE (fun _ _ => rfl) ⟨h4.1, by omega⟩ (fun a q1 q2 _ _ => funext fun j => hf a j q2) (funext fun j => hf v j h3.2.1) (PGE.of fun k j w => hf k j (by omega)), by rw [ovr_ex hq]; exact h6⟩
  rw [hf 29 1 (by omega), hf (mem 29 1) p hr]
  exact h1
theorem GRX.copy (hI : INV kd ln mem sz tg) (hc : isPlt mem p ∧ mem 35 79 ≠ 8) (hE1 : EXT kd ln sz kd1 ln1 sz1) (hf1 : ∀ b j : Int, b < sz → mem1 b j = mem b j) (he : e = sz) (hs1 : sz1 = sz + 2) (hke : kd1 e = 11) (hfl : mem1 e 0 = p ∧ mem1 e 1 = e + 1) (hr : kd1 (e + 1) = 21 ∧ ln1 (e + 1) = 40 ∧ ∀ t : Int, 0 ≤ t → t < mem 47 p → mem1 (e + 1) t = prtV mem p t) (hA : ADDP ln1 mem1 sz1 31 e kd2 ln2 mem2) (hz2 : mem2 31 1 < sz2) (hE2 : EXT kd1 ln1 sz1 kd2 ln2 sz2) : ∀ M' : Int → Int → Int, CPM mem M' p → GRX kd2 ln2 mem2 sz2 M' := by
  intro M' hM
  have hs := hI.1.2.2.2.2.1
  have hn := hI.cps
  have hz := hE2.1
  have hpg := hI.pgs.2.2 p hc.1.1.1 hc.1.1.2
  have hl : mem1 31 1 < sz := by rw [hf1 31 1 (by omega)]; exact hI.g31.1.2.2.2.2.1
  have hat := hA.at hl (by omega) (b := e) (by omega)
  have har := hA.at hl (by omega) (b := e + 1) (by omega)
  have er := hE2.2 (e + 1) (by omega)
  obtain ⟨m1, m2, m3, m4⟩ := hM
  have e47 : M' 47 p = mem 47 p := m1 47 p (by omega) (by omega) (by omega)
  refine ⟨tgN tg sz sz1 31 (mem 35 79) id, hI.2.2.add31 hI.2.1 hs (by omega) hE1 hf1 hA hz2 hE2 (by omega) hke tgN_x (tgN_1 (by omega)) ?_ m3 (fun x j q1 q2 => m1 x j (by omega) (by omega) (by omega)) ⟨?_, ?_, fun n u1 u2 => ?_⟩⟩
  · rw [tgN_n (by omega), he, Int.sub_self]; exact Int.add_zero _
  · rw [hat 0, hfl.1, m2]
  · rw [hat 1, hfl.2]
    exact ⟨er.1.trans hr.1, er.2.trans hr.2.1, by omega, by omega, by rw [tgN_n (by omega), he]; show _ + ((sz : Int) + 1 - sz) = _; omega⟩
  · rw [m2, e47] at u2
    rw [hat 1, hfl.2, har n, hr.2.2 n u1 u2, m4 n u1 u2]
end
set_option maxHeartbeats 4000000 in
set_option maxRecDepth 100000 in
theorem c_X11_copy {l : Launch} {g : GP} (hG : GH g) {kd : Int → Nat} {ln : Int → Int} {mem : Int → Int → Int} {sz : Nat} (hK : HK kd ln) (hR : HR mem) (p : Int) (tg : Int → Int) (hI : INV kd ln mem sz tg) (hTN : TNS g) (hEM : EMP g) (mi : Nat) (hMI : va_Mi "[Ljava/lang/Object;" mi (gs g)) (h_p : InI p) : MT l g yX11_copy cX11_copy 5 (some .int) 7 3 143 [(2, 3), (0, p)] kd ln mem sz (pXR 0 (fun v kd' ln' mem' sz' => HR mem' ∧ (((isPlt mem p ∧ mem 35 79 ≠ 8) → v = mem 35 79 ∧ ∀ M' : Int → Int → Int, CPM mem M' p → GRX kd' ln' mem' sz' M') ∧ (¬ (isPlt mem p ∧ mem 35 79 ≠ 8) → v = -1 ∧ GRX kd' ln' mem' sz' mem) ∧ MKP mem mem')) kd ln sz) := by
  refine MT_of hG (by decide +kernel) (Nat.le_of_ble_eq_true rfl) (fun z hF hr hn => ?_)
  obtain ⟨⟨q0, q1, q2, q3, q4, q5⟩, u0, u2, u46, u89, usz⟩ := hI.num
  have n31 : 0 ≤ mem 35 79 ∧ mem 35 79 ≤ 8 := ⟨hI.cps.1, hI.cps.2.1⟩
  have n29 : 0 ≤ mem 35 33 ∧ mem 35 33 ≤ 12 := ⟨hI.pgs.1, hI.pgs.2.1⟩
  obtain ⟨e31, k31, r31, b31, c31⟩ := hI.g31.ls
  obtain ⟨e29, k29, r29, b29, c29⟩ := hI.g29.ls
  refine jblk hF [(.aload_n 0, 1), (.iload_n 1, 1), (.iconst 0, 1)] (by decide +kernel) (pc' := 3) (lo' := [(0, (2, 3)), (1, (0, p))]) (st' := [(0, 0), (0, p), (2, 3)]) rfl ?_
  refine jcallV hF (c_X11_plateWith hG hK hR p 0 (by exact tg) (by assumption) (by omega) (by decide)) MW_X11_plateWith 12 (by decide) (by exact hK.k3) wd_1135 wd_1137 wd_p37 (by decide +kernel) [] rfl rfl (by decide) (Nat.le_of_ble_eq_true rfl) (by decide) (kR (fun v_1 h_2 => ?_))
  have hv := h_2
  refine jblk hF [(.astore_n 2, 1), (.aload_n 2, 1)] (by decide +kernel) (pc' := 8) (lo' := [(2, (2, v_1)), (0, (2, 3)), (1, (0, p))]) (st' := [(2, v_1)]) rfl ?_
  refine jnull hF (off := 15) 23 (by decide +kernel) (by decide) (fun h_3 => ?_) (fun h_3 => ?_)
  · have hng : ¬ (isPlt mem p ∧ mem 35 79 ≠ 8) := fun u => by first | omega | (refine (hv.2 (by omega)).1 ⟨⟨u.1.1, by omega, ?_⟩, u.1.2⟩; have := hI.pgs.2.2 p u.1.1.1 u.1.1.2; omega)
    refine jblk hF [(.iconst (-1), 1)] (by decide +kernel) (pc' := 24) (lo' := [(2, (2, v_1)), (0, (2, 3)), (1, (0, p))]) (st' := [(0, (-1))]) rfl ?_
    refine jwiden (k := 3) (n := 143) (Nat.le_of_ble_eq_true rfl) (Nat.le_of_ble_eq_true rfl) ?_
    refine jiret hF hr (by decide +kernel) ?_
    exact ⟨_, rfl, EXT.rf, ⟨hR, by exact ⟨fun u => absurd u hng, fun _ => ⟨rfl, ⟨tg, hI.2.2⟩⟩, MKP.rf hI⟩⟩⟩
  · refine jblk hF [(.aload_n 0, 1)] (by decide +kernel) (pc' := 12) (lo' := [(2, (2, v_1)), (0, (2, 3)), (1, (0, p))]) (st' := [(2, 3)]) rfl ?_
    refine jget hF 12 16 2 16 rfl (by decide) (by decide) rfl wd_342 (by decide +kernel) (by exact hK.k3) ?_
    rw [HR.r3_16 hR]
    refine jcallV hF (c_Jx4a65c_size_8abf5 hG 31 (by first | assumption | omega)) MW_Jx4a65c_size_8abf5 0 (by decide) (by exact hK.k31) wd_410 wd_411 wd_412 (by decide +kernel) [] rfl rfl (by decide) (Nat.le_of_ble_eq_true rfl) (by decide) (kV ?_)
    rw [e31]
    refine jblk hF [(.bipush 8, 2)] (by decide +kernel) (pc' := 20) (lo' := [(2, (2, v_1)), (0, (2, 3)), (1, (0, p))]) (st' := [(0, 8), (0, mem 35 79)]) rfl ?_
    refine jicmp_lt hF (off := 5) 25 (by decide +kernel) (by decide) (by omega) (by decide) (fun h_4 => ?_) (fun h_4 => ?_)
    · obtain ⟨hpg, hpo⟩ := hv.1 (by omega)
      have hcc : isPlt mem p ∧ mem 35 79 ≠ 8 := ⟨⟨hpg.1.1, hpg.2⟩, by omega⟩
      have hgn := hpo.nm
      have hn2 := hgn.2.2.1
      have hpg2 := hpo.2.2
      have hat0 := hpo.at
      refine jnew hF 10 (by decide) okT_10 wd_1164 wd_1165 wd_124 (by decide +kernel) ⟨Nat.le_of_ble_eq_true rfl, Nat.le_of_ble_eq_true rfl⟩ ?_
      obtain ⟨kd_5, hkd_5⟩ : ∃ q : Int → Nat, q = upK kd ((sz : Nat) : Int) (11) := ⟨_, rfl⟩
      obtain ⟨m_5, hm_5⟩ : ∃ q : Int → Int → Int, q = newO 10 mem ((sz : Nat) : Int) := ⟨_, rfl⟩
      obtain ⟨sz_5, hsz_5⟩ : ∃ q : Nat, q = sz + 1 := ⟨_, rfl⟩
      obtain ⟨a_5, ha_5⟩ : ∃ q : Int, q = ((sz : Nat) : Int) := ⟨_, rfl⟩
      rw [← hkd_5, ← hm_5, ← hsz_5]
      rw [← ha_5]
      have hk_5 : kd_5 a_5 = 11 := by rw [ha_5, hkd_5]; exact if_pos rfl
      have hE_5 : EXT kd ln sz kd_5 ln sz_5 := by rw [hsz_5, hkd_5]; exact EXT.k _
      have hEE_5 : EXT kd ln sz kd_5 ln sz_5 := (EXT.rf).tr hE_5
      have hK_5 : HK kd_5 ln := hK.ext hE_5 (by omega)
      have hR_m_5 : HR m_5 := HR.of hR (fun a k q => by rw [hm_5]; exact newO_o _ (by omega))
      have hmo_5 : ∀ b j : Int, b ≠ a_5 → m_5 b j = mem b j := fun b j q => by rw [hm_5]; exact newO_o j (by rw [← ha_5]; exact q)
      have hmn_5 : ∀ j : Int, m_5 a_5 j = dfl 10 j.toNat := fun j => by rw [hm_5, ha_5]; exact newO_s j
      have hmoA := hmo_5
      have hmnA := hmn_5
      have hEA := hE_5
      have hkA := hk_5
      have haA := ha_5
      have hszA := hsz_5
      have hEEA := hEE_5
      refine jblk hF [(.dup, 1), (.iload_n 1, 1)] (by decide +kernel) (pc' := 30) (lo' := [(2, (2, v_1)), (0, (2, 3)), (1, (0, p))]) (st' := [(0, p), (2, a_5), (2, a_5)]) rfl ?_
      refine jcallI hF (c_X9_init hG a_5 p (by first | assumption | omega) (by omega) (by omega)) MW_X9_init rfl (by first | assumption | omega) wd_1166 wd_1167 (by decide +kernel) [(2, a_5)] rfl rfl (by decide) (Nat.le_of_ble_eq_true rfl) ⟨Nat.le_of_ble_eq_true rfl, Nat.le_of_ble_eq_true rfl⟩ (kXV (fun kd_6 ln_6 m_6 sz_6 hE_6 h_6 => ?_))
      have hEE_6 : EXT kd ln sz kd_6 ln_6 sz_6 := (hEE_5).tr hE_6
      have hK_6 : HK kd_6 ln_6 := hK_5.ext hE_6 (by omega)
      obtain ⟨t1, t2, t3, t4, t5, t6, t7⟩ := h_6
      have hsn : ((sz_5 : Nat) : Int) = a_5 + 1 := by omega
      rw [hsn] at t3 t4 t5 t6 t7
      have hE0x := hEEA.tr hE_6
      have hf0x : ∀ b j : Int, b < sz → m_6 b j = mem b j := fun b j u => (t7 b j (by omega) (by omega)).trans (hmoA b j (by omega))
      have hR_m_6 : HR m_6 := HR.of hR (fun x k u => hf0x x k (by omega))
      have hke0 := (hE_6.2 a_5 (by omega)).1.trans hkA
      refine jblk hF [(.astore_n 3, 1), (.iconst 0, 1), (.istore 4, 2)] (by decide +kernel) (pc' := 37) (lo' := [(4, (0, 0)), (3, (2, a_5)), (2, (2, v_1)), (0, (2, 3)), (1, (0, p))]) (st' := []) rfl ?_
      have L_8 : ∀ (fu_9 : Nat) (i : Int) (m : Int → Int → Int), (HR m) → (0 ≤ i ∧ i ≤ mem 47 p) → (∀ b j : Int, b < sz → m b j = mem b j) → (∀ j : Int, m a_5 j = m_6 a_5 j) → (∀ t : Int, 0 ≤ t → t < i → m (a_5 + 1) t = prtV mem p t) →  (mem 47 p - i).toNat < fu_9 → J z g 5 2 42 (QM z g 3 143 (pXR 0 (fun v kd' ln' mem' sz' => HR mem' ∧ (((isPlt mem p ∧ mem 35 79 ≠ 8) → v = mem 35 79 ∧ ∀ M' : Int → Int → Int, CPM mem M' p → GRX kd' ln' mem' sz' M') ∧ (¬ (isPlt mem p ∧ mem 35 79 ≠ 8) → v = -1 ∧ GRX kd' ln' mem' sz' mem) ∧ MKP mem mem')) kd ln sz)) 37 [(0, (2, 3)), (1, (0, p)), (2, (2, v_1)), (3, (2, a_5)), (4, (0, i))] [] kd_6 ln_6 m sz_6 := by
        intro fu_9
        induction fu_9 with
        | zero => intro i m _ _ _ _ _ hm; omega
        | succ fu_9 ih_7 =>
          intro i m hR_m hi hfm hfe hrow hm
          have hPm := hpo.ext hE0x hfm hI (by omega)
          have hk := hPm.at
          have hpb := hPm.pb
          have hqm : EQS mem m := fun x j u => hfm x j (by omega)
          have hrs : PRS m := by rw [ovr_ex hqm]; exact hI.prs
          have e82 : m 82 p = 1 := (hfm 82 p (by omega)).trans hpg.2
          have e47 : m 47 p = mem 47 p := hfm 47 p (by omega)
          have hgm := hPm.nm.2.2.1
          have hplt := hPm.plt e82
          have h18 := hPm.r8 (k := 18) (by decide)
          have e3 : m a_5 1 = a_5 + 1 := (hfe 1).trans t3
          have hpt1 : prtV m p i = prtV mem p i := (congrArg (fun y => prtV y p i) (ovr_ex hqm)).trans (cg_prtV m mem p i)
          have hpt0 := fun (u1 : 0 ≤ i) (u2 : i < mem 47 p) => (hPm.prt hrs e82 (n := i) ⟨u1, by rw [e47]; exact u2⟩).trans hpt1
          have el3 : ln_6 (m a_5 1) = 40 := by rw [e3]; exact t5
          refine jblk hF [(.iload 4, 2), (.aload_n 2, 1)] (by decide +kernel) (pc' := 40) (lo' := [(0, (2, 3)), (1, (0, p)), (2, (2, v_1)), (3, (2, a_5)), (4, (0, i))]) (st' := [(2, v_1), (0, i)]) rfl ?_
          refine jget hF 4 2 0 2 rfl (by decide) (by decide) rfl wd_697 (by decide +kernel) (by first | exact hk.1 | exact hke0 | (rw [e3]; exact t4) | assumption | omega) ?_
          refine jicmp_ge hF (off := 22) 65 (by decide +kernel) (by decide) (by omega) (by omega) (fun h_10 => ?_) (fun h_10 => ?_)
          · have hf1x := hfm
            have hE1x := hE0x
            have hke := hke0
            have hlo := hI.g31.lso hE1x hf1x wx_2267 (by decide) (by omega)
            refine jblk hF [(.aload_n 0, 1)] (by decide +kernel) (pc' := 66) (lo' := [(0, (2, 3)), (1, (0, p)), (2, (2, v_1)), (3, (2, a_5)), (4, (0, i))]) (st' := [(2, 3)]) rfl ?_
            refine jget hF 12 16 2 16 rfl (by decide) (by decide) rfl wd_342 (by decide +kernel) (by exact hK_6.k3) ?_
            rw [HR.r3_16 hR_m]
            refine jblk hF [(.aload_n 3, 1)] (by decide +kernel) (pc' := 70) (lo' := [(0, (2, 3)), (1, (0, p)), (2, (2, v_1)), (3, (2, a_5)), (4, (0, i))]) (st' := [(2, a_5), (2, 31)]) rfl ?_
            refine jcallV hF (c_Jx4a65c_add_9ea2d hG 31 a_5 (by assumption) (by exact mi) (by assumption) (by exact hlo.1) (by exact hlo.2) (by exact 10) (by decide) (by first | assumption | exact hke) (by omega) (by exact wx_2267)) MW_Jx4a65c_add_9ea2d 0 (by decide) (by exact hK_6.k31) wd_430 wd_431 wd_432 (by decide +kernel) [] rfl rfl (by decide) (Nat.le_of_ble_eq_true rfl) (by decide) (kXR (fun v_11 kd_11 ln_11 m_11 sz_11 hE_11 h_11 => ?_))
            have hEE_11 : EXT kd ln sz kd_11 ln_11 sz_11 := (hEE_6).tr hE_11
            have hK_11 : HK kd_11 ln_11 := hK_6.ext hE_11 (by omega)
            obtain ⟨hv1, hAd, hAz⟩ := h_11
            have hE2x := hE_11
            have hfx : ∀ a j : Int, (a < 27 ∨ (34 < a ∧ a ≤ 100)) → m_11 a j = mem a j := hAd.mkp (hI.g31.2.1.imp id (fun u => u.1)) hf1x (by omega) (by omega) (by decide)
            have hR_m_11 : HR m_11 := HR.of hR (fun x k u => hfx x k (by omega))
            have hsz2 : m_11 31 2 = mem 35 79 + 1 := by rw [hAd.2.2.2.2.2.1, hf1x 31 2 (by omega), e31]
            have hmk : MKP mem m_11 := MKP.of hI hfx
            have hkLx : kd_11 31 = 1 := ((hE1x.tr hE2x).2 31 (by omega)).1.trans k31
            refine jblk hF [(.pop, 1), (.aload_n 0, 1)] (by decide +kernel) (pc' := 75) (lo' := [(0, (2, 3)), (1, (0, p)), (2, (2, v_1)), (3, (2, a_5)), (4, (0, i))]) (st' := [(2, 3)]) rfl ?_
            refine jget hF 12 16 2 16 rfl (by decide) (by decide) rfl wd_342 (by decide +kernel) (by exact hK_11.k3) ?_
            rw [HR.r3_16 hR_m_11]
            refine jcallV hF (c_Jx4a65c_size_8abf5 hG 31 (by first | assumption | omega)) MW_Jx4a65c_size_8abf5 0 (by decide) (by exact hK_11.k31) wd_410 wd_411 wd_412 (by decide +kernel) [] rfl rfl (by decide) (Nat.le_of_ble_eq_true rfl) (by decide) (kV ?_)
            rw [hsz2]
            refine jblk hF [(.iconst 1, 1), (.isub, 1)] (by decide +kernel) (pc' := 83) (lo' := [(0, (2, 3)), (1, (0, p)), (2, (2, v_1)), (3, (2, a_5)), (4, (0, i))]) (st' := [(0, (mem 35 79 + 1) - 1)]) rfl ?_
            refine jwiden (k := 3) (n := 143) (Nat.le_of_ble_eq_true rfl) (Nat.le_of_ble_eq_true rfl) ?_
            refine jiret hF hr (by decide +kernel) ?_
            exact ⟨_, rfl, hEE_11, ⟨hR_m_11, by exact ⟨fun _ => ⟨by omega, GRX.copy hI hcc hE1x hf1x haA (by omega) hke ⟨(hfe 0).trans t2, (hfe 1).trans t3⟩ ⟨t4, t5, fun t u1 u2 => hrow t u1 (by omega)⟩ hAd hAz hE2x⟩, fun u => absurd hcc u, hmk⟩⟩⟩
          · have hpt := hpt0 (by omega) (by omega)
            refine jblk hF [(.aload_n 3, 1)] (by decide +kernel) (pc' := 47) (lo' := [(0, (2, 3)), (1, (0, p)), (2, (2, v_1)), (3, (2, a_5)), (4, (0, i))]) (st' := [(2, a_5)]) rfl ?_
            refine jget hF 10 1 2 1 rfl (by decide) (by decide) rfl wd_1173 (by decide +kernel) (by first | exact hk.1 | exact hke0 | (rw [e3]; exact t4) | assumption | omega) ?_
            refine jblk hF [(.iload 4, 2), (.aload_n 2, 1), (.iload 4, 2)] (by decide +kernel) (pc' := 55) (lo' := [(0, (2, 3)), (1, (0, p)), (2, (2, v_1)), (3, (2, a_5)), (4, (0, i))]) (st' := [(0, i), (2, v_1), (0, i), (2, m a_5 1)]) rfl ?_
            refine jcallV hF (c_X3_printedOf hG hK_6 hR_m v_1 i (by assumption) (by exact hk.1) (by omega) (by exact ⟨h18.1, h18.2.1, by omega⟩) (by exact fun _ => hplt.1) (by exact hPm.wa) (by omega) (by exact hplt.2.2.2) (by exact hPm.nib hrs) (by omega)) MW_X3_printedOf 4 (by decide) (by first | exact hk.1 | exact hke0 | (rw [e3]; exact t4) | assumption | omega) wd_1153 wd_1154 wd_1155 (by decide +kernel) [(0, i), (2, m a_5 1)] rfl rfl (by decide) (Nat.le_of_ble_eq_true rfl) (by decide) (kV ?_)
            rw [hpt]
            refine jlast hF (by decide +kernel) (by omega) (by first | exact hk.1 | exact hke0 | (rw [e3]; exact t4) | assumption | omega) (by omega) (by omega) ?_
            refine jblk hF [(.iinc 4 1, 3)] (by decide +kernel) (pc' := 62) (lo' := [(4, (0, i + 1)), (0, (2, 3)), (1, (0, p)), (2, (2, v_1)), (3, (2, a_5))]) (st' := []) rfl ?_
            refine jgoto hF (off := (-25)) 37 (by decide +kernel) (by decide) ?_
            refine jsub [1, 2, 3, 4, 0] rfl ?_
            refine ih_7 (i + 1) (set2 m (m a_5 1) i (prtV mem p i)) ?_ ?_ ?_ ?_ ?_ ?_
            · (refine HR.s hR_m (by omega))
            · omega
            · (intro b j u; exact (s2_a (by omega)).trans (hfm b j u))
            · (intro j; exact (s2_a (by omega)).trans (hfe j))
            · (intro t u1 u2; rw [e3]; by_cases u : t = i; (rw [u]; exact s2_s); exact (s2_k u).trans (hrow t u1 (by omega)))
            · omega
      refine jwiden (k := 2) (n := 42) (Nat.le_of_ble_eq_true rfl) (Nat.le_of_ble_eq_true rfl) ?_
      refine jsub [3, 4, 2, 1, 0] rfl ?_
      refine L_8 _ 0 m_6 ?_ ?_ ?_ ?_ ?_ (Nat.lt_succ_self _)
      · exact hR_m_6
      · omega
      · exact hf0x
      · (intro j; rfl)
      · (intro t u1 u2; omega)
    · have hng : ¬ (isPlt mem p ∧ mem 35 79 ≠ 8) := fun u => by first | omega | (refine (hv.2 (by omega)).1 ⟨⟨u.1.1, by omega, ?_⟩, u.1.2⟩; have := hI.pgs.2.2 p u.1.1.1 u.1.1.2; omega)
      refine jblk hF [(.iconst (-1), 1)] (by decide +kernel) (pc' := 24) (lo' := [(2, (2, v_1)), (0, (2, 3)), (1, (0, p))]) (st' := [(0, (-1))]) rfl ?_
      refine jwiden (k := 3) (n := 143) (Nat.le_of_ble_eq_true rfl) (Nat.le_of_ble_eq_true rfl) ?_
      refine jiret hF hr (by decide +kernel) ?_
      exact ⟨_, rfl, EXT.rf, ⟨hR, by exact ⟨fun u => absurd u hng, fun _ => ⟨rfl, ⟨tg, hI.2.2⟩⟩, MKP.rf hI⟩⟩⟩
end
