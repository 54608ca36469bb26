section
theorem EQS.sym {m m' : Int → Int → Int} (h : EQS m m') : EQS m' m := fun x j q => (h x j q).symm
theorem MKP.tr {a b c : Int → Int → Int} (h1 : MKP a b) (h2 : MKP b c) : MKP a c := ⟨fun x j q1 q2 => (h2.1 x j q1 q2).trans (h1.1 x j q1 q2), h2.2⟩
theorem GRX.eqs {kd : Int → Nat} {ln : Int → Int} {mem M M' : Int → Int → Int} {sz : Nat} (h : GRX kd ln mem sz M) (hs : 101 ≤ sz) (he : EQS M M') : GRX kd ln mem sz M' := by
  obtain ⟨tg, hg⟩ := h
  exact ⟨tg, hg.fr hs EXT.rf (fun _ _ => rfl) (fun _ _ _ => rfl) he⟩
theorem set2_eqs {M M' : Int → Int → Int} {a k v v' : Int} (h : EQS M M') (hv : v' = v) : EQS (set2 M a k v) (set2 M' a k v') := fun x j q => by
  unfold set2
  rw [hv]
  split
  · rfl
  · exact h x j q
theorem slipM_eqs {M M' : Int → Int → Int} {p n c am : Int} (h : EQS M M') : EQS (slipM M p n c am) (slipM M' p n c am) := by
  unfold slipM
  rw [h 35 45 (by decide), h 35 0 (by decide)]
  exact set2_eqs (set2_eqs (set2_eqs (set2_eqs (set2_eqs (set2_eqs (set2_eqs h rfl) rfl) rfl) rfl) rfl) rfl) rfl
set_option maxHeartbeats 4000000 in
set_option maxRecDepth 100000 in
theorem c_X11_take {l : Launch} {g : GP} (hG : GH g) {kd : Int → Nat} {ln : Int → Int} {mem : Int → Int → Int} {sz : Nat} (hK : HK kd ln) (hR : HR mem) (p n s j : Int) (tg : Int → Int) (hI : INV kd ln mem sz tg) (hEM : EMP g) (mi : Nat) (hMI : va_Mi "[Ljava/lang/Object;" mi (gs g)) (h_p : InI p) (h_n : InI n) (h_s : InI s) (h_j : InI j) : MT l g yX11_take cX11_take 9 (some .int) 8 2 106 [(2, 3), (0, p), (0, n), (0, s), (0, j)] kd ln mem sz (pXR 0 (fun v kd' ln' mem' sz' => HR mem' ∧ ((¬ takA mem p n s → v = -1 ∧ GRX kd' ln' mem' sz' mem) ∧ (takA mem p n s → ¬ takB mem s j → v = -2 ∧ GRX kd' ln' mem' sz' mem) ∧ (takA mem p n s → takB mem s j → (takV mem p n s j = 0 → v = -3 ∧ GRX kd' ln' mem' sz' mem) ∧ (takV mem p n s j ≠ 0 → (takV mem p n s j < -1000000 ∨ takV mem p n s j > 1000000 ∨ mem 35 45 = 60) → v = -1 ∧ GRX kd' ln' mem' sz' mem) ∧ (takV mem p n s j ≠ 0 → ¬ (takV mem p n s j < -1000000 ∨ takV mem p n s j > 1000000 ∨ mem 35 45 = 60) → v = mem 35 45 ∧ GRX kd' ln' mem' sz' (slipM mem p n 9 (takV mem p n s j)))) ∧ MKP mem mem')) kd ln sz) := by
  refine MT_of hG (by decide +kernel) (Nat.le_of_ble_eq_true rfl) (fun z hF hr hn => ?_)
  obtain ⟨⟨q0, q1, q2, q3, q4, q5⟩, u0, u2, u46, u89, usz⟩ := hI.num
  have n29 : 0 ≤ mem 35 33 ∧ mem 35 33 ≤ 12 := ⟨hI.pgs.1, hI.pgs.2.1⟩
  have n34 : 0 ≤ mem 35 88 ∧ mem 35 88 ≤ 8 := ⟨hI.shs.1, hI.shs.2.1⟩
  obtain ⟨e29, k29, r29, b29, c29⟩ := hI.g29.ls
  obtain ⟨e34, k34, r34, b34, c34⟩ := hI.g34.ls
  have hkn : 0 ≤ knw mem ∧ knw mem ≤ mem 35 0 := by unfold knw; split <;> omega
  refine jblk hF [(.aload_n 0, 1), (.iload_n 1, 1), (.iload_n 2, 1), (.aload_n 0, 1)] (by decide +kernel) (pc' := 4) (lo' := [(0, (2, 3)), (1, (0, p)), (2, (0, n)), (3, (0, s)), (4, (0, j))]) (st' := [(2, 3), (0, n), (0, p), (2, 3)]) rfl ?_
  refine jcallV hF (c_X11_known hG hK hR (by exact tg) (by assumption)) MW_X11_known 12 (by decide) (by exact hK.k3) wd_1107 wd_403 wd_404 (by decide +kernel) [(0, n), (0, p), (2, 3)] rfl rfl (by decide) (Nat.le_of_ble_eq_true rfl) (by decide) (kV ?_)
  refine jcallV hF (c_X11_madeWith hG hK hR p n (knw mem) (by exact tg) (by assumption) (by omega) (by omega) (by omega)) MW_X11_madeWith 12 (by decide) (by exact hK.k3) wd_936 wd_938 wd_p26 (by decide +kernel) [] rfl rfl (by decide) (Nat.le_of_ble_eq_true rfl) (by decide) (kMR (fun v_3 m_1 h_2 => ?_))
  obtain ⟨hR_m_1, h_2⟩ := h_2
  have hw := h_2
  have hIm := hI.scf hw.1
  refine jblk hF [(.astore 5, 2), (.aload_n 0, 1), (.iload_n 3, 1)] (by decide +kernel) (pc' := 14) (lo' := [(5, (2, v_3)), (0, (2, 3)), (1, (0, p)), (2, (0, n)), (3, (0, s)), (4, (0, j))]) (st' := [(0, s), (2, 3)]) rfl ?_
  refine jcallV hF (c_X11_sheetAt hG hK hR_m_1 s (by exact tg) (by assumption) (by omega)) MW_X11_sheetAt 12 (by decide) (by exact hK.k3) wd_1257 wd_1259 wd_p39 (by decide +kernel) [] rfl rfl (by decide) (Nat.le_of_ble_eq_true rfl) (by decide) (kR (fun v_4 h_5 => ?_))
  have hvs := h_5
  refine jblk hF [(.astore 6, 2)] (by decide +kernel) (pc' := 19) (lo' := [(6, (2, v_4)), (5, (2, v_3)), (0, (2, 3)), (1, (0, p)), (2, (0, n)), (3, (0, s)), (4, (0, j))]) (st' := []) rfl ?_
  have hg0 : GRX kd ln m_1 sz mem := ⟨tg, hI.2.2.fr usz EXT.rf (fun _ _ => rfl) (fun a j u => hw.1 a j (by omega) (by omega) (by omega)) (fun _ _ _ => rfl)⟩
  have hmk : MKP mem m_1 := ⟨fun a j u1 u2 => hw.1 a j (by omega) (by omega) (by omega), hIm.1.2.2.2.2.2⟩
  have hce : EQS mem m_1 := hw.1.eqs
  have e88 : m_1 35 88 = mem 35 88 := hce 35 88 (by decide)
  have e98 : m_1 98 s = mem 98 s := hce 98 s (by omega)
  refine jblk hF [(.aload 5, 2)] (by decide +kernel) (pc' := 21) (lo' := [(6, (2, v_4)), (5, (2, v_3)), (0, (2, 3)), (1, (0, p)), (2, (0, n)), (3, (0, s)), (4, (0, j))]) (st' := [(2, v_3)]) rfl ?_
  refine jnull hF (off := 17) 38 (by decide +kernel) (by decide) (fun h_6 => ?_) (fun h_6 => ?_)
  · have hng : ¬ takA mem p n s := fun u => by first | omega | exact (hw.2.2 (by omega)).1 ⟨u.1, hkn⟩ | (have := (hvs.2 (by omega)).1; omega)
    refine jblk hF [(.iconst (-1), 1)] (by decide +kernel) (pc' := 39) (lo' := [(6, (2, v_4)), (5, (2, v_3)), (0, (2, 3)), (1, (0, p)), (2, (0, n)), (3, (0, s)), (4, (0, j))]) (st' := [(0, (-1))]) rfl ?_
    refine jwiden (k := 2) (n := 106) (Nat.le_of_ble_eq_true rfl) (Nat.le_of_ble_eq_true rfl) ?_
    refine jiret hF hr (by decide +kernel) ?_
    exact ⟨_, rfl, EXT.rf, ⟨hR_m_1, by exact ⟨fun _ => ⟨rfl, hg0⟩, fun u => absurd u hng, fun u => absurd u hng, hmk⟩⟩⟩
  · refine jblk hF [(.aload 6, 2)] (by decide +kernel) (pc' := 26) (lo' := [(6, (2, v_4)), (5, (2, v_3)), (0, (2, 3)), (1, (0, p)), (2, (0, n)), (3, (0, s)), (4, (0, j))]) (st' := [(2, v_4)]) rfl ?_
    refine jnull hF (off := 12) 38 (by decide +kernel) (by decide) (fun h_7 => ?_) (fun h_7 => ?_)
    · have hng : ¬ takA mem p n s := fun u => by first | omega | exact (hw.2.2 (by omega)).1 ⟨u.1, hkn⟩ | (have := (hvs.2 (by omega)).1; omega)
      refine jblk hF [(.iconst (-1), 1)] (by decide +kernel) (pc' := 39) (lo' := [(6, (2, v_4)), (5, (2, v_3)), (0, (2, 3)), (1, (0, p)), (2, (0, n)), (3, (0, s)), (4, (0, j))]) (st' := [(0, (-1))]) rfl ?_
      refine jwiden (k := 2) (n := 106) (Nat.le_of_ble_eq_true rfl) (Nat.le_of_ble_eq_true rfl) ?_
      refine jiret hF hr (by decide +kernel) ?_
      exact ⟨_, rfl, EXT.rf, ⟨hR_m_1, by exact ⟨fun _ => ⟨rfl, hg0⟩, fun u => absurd u hng, fun u => absurd u hng, hmk⟩⟩⟩
    · obtain ⟨hpg, hpo, hmd⟩ := hw.2.1 (by omega)
      have hk := hpo.at
      have hpm := hpo.scf hw.1 hI
      have hpb := hpm.pb
      have hgn := hpm.nm
      have hn2 := hgn.2.2.1
      have hn4 := hgn.2.2.2.2.1
      have hn7 := hgn.2.2.2.2.2.2.2.1
      have hc47 := hw.1.c47 p
      have hc49 := hw.1.c49 p
      have hc52 := hw.1.c52 p
      obtain ⟨hsg, hso⟩ := hvs.1 (by omega)
      obtain ⟨k9, ow, ⟨o1, ⟨o2, o3, o4, o5, o6⟩, o7, o8⟩, evs⟩ := id hso
      have hmo : n % m_1 v_3 7 = n % mem 52 p := by rw [hn7, hc52]
      have hsh := hIm.shs.2.2 s (by omega) (by omega)
      refine jblk hF [(.aload 5, 2), (.iload_n 2, 1)] (by decide +kernel) (pc' := 32) (lo' := [(6, (2, v_4)), (5, (2, v_3)), (0, (2, 3)), (1, (0, p)), (2, (0, n)), (3, (0, s)), (4, (0, j))]) (st' := [(0, n), (2, v_3)]) rfl ?_
      refine jcallV hF (c_X3_isMade hG v_3 n (by exact hk.1) (by omega) (by assumption) (by omega)) MW_X3_isMade 4 (by decide) (by first | exact k9 | exact o2 | exact hk.1 | assumption | omega) wd_982 wd_890 wd_891 (by decide +kernel) [] rfl rfl (by decide) (Nat.le_of_ble_eq_true rfl) (by decide) (kB (fun h_8 => ?_) (fun h_8 => ?_))
      · refine jif_ne hF (off := 5) 40 (by decide +kernel) (by decide) (by decide) (fun _ => ?_) (fun h => absurd h (by decide))
        have hta : takA mem p n s := ⟨hpg.1, by omega, by omega⟩
        refine jblk hF [(.aload 6, 2)] (by decide +kernel) (pc' := 42) (lo' := [(6, (2, v_4)), (5, (2, v_3)), (0, (2, 3)), (1, (0, p)), (2, (0, n)), (3, (0, s)), (4, (0, j))]) (st' := [(2, v_4)]) rfl ?_
        refine jget hF 8 2 0 2 rfl (by decide) (by decide) rfl wd_1245 (by decide +kernel) (by first | exact k9 | exact o2 | exact hk.1 | assumption | omega) ?_
        refine jif_ne hF (off := 14) 59 (by decide +kernel) (by decide) (by omega) (fun h_10 => ?_) (fun h_10 => ?_)
        · have hnb : ¬ takB mem s j := by omega
          refine jblk hF [(.bipush (-2), 2)] (by decide +kernel) (pc' := 61) (lo' := [(6, (2, v_4)), (5, (2, v_3)), (0, (2, 3)), (1, (0, p)), (2, (0, n)), (3, (0, s)), (4, (0, j))]) (st' := [(0, (-2))]) rfl ?_
          refine jwiden (k := 2) (n := 106) (Nat.le_of_ble_eq_true rfl) (Nat.le_of_ble_eq_true rfl) ?_
          refine jiret hF hr (by decide +kernel) ?_
          exact ⟨_, rfl, EXT.rf, ⟨hR_m_1, by exact ⟨fun u => absurd hta u, fun _ _ => ⟨rfl, hg0⟩, fun _ u => absurd u hnb, hmk⟩⟩⟩
        · refine jblk hF [(.iload 4, 2), (.iconst 0, 1), (.bipush 39, 2)] (by decide +kernel) (pc' := 53) (lo' := [(6, (2, v_4)), (5, (2, v_3)), (0, (2, 3)), (1, (0, p)), (2, (0, n)), (3, (0, s)), (4, (0, j))]) (st' := [(0, 39), (0, 0), (0, j)]) rfl ?_
          refine jcallS hF (c_X11_within hG j 0 39 (by omega) (by decide) (by decide)) MW_X11_within wd_391 wd_392 (by decide +kernel) [] rfl rfl (by decide) (Nat.le_of_ble_eq_true rfl) (by decide) (kB (fun h_11 => ?_) (fun h_11 => ?_))
          · refine jif_ne hF (off := 6) 62 (by decide +kernel) (by decide) (by decide) (fun _ => ?_) (fun h => absurd h (by decide))
            have htb : takB mem s j := by omega
            have e8 := o8 j (by omega) (by omega)
            have e11 := hmd.1 n (by omega) (by omega)
            refine jblk hF [(.aload 6, 2)] (by decide +kernel) (pc' := 64) (lo' := [(6, (2, v_4)), (5, (2, v_3)), (0, (2, 3)), (1, (0, p)), (2, (0, n)), (3, (0, s)), (4, (0, j))]) (st' := [(2, v_4)]) rfl ?_
            refine jget hF 8 1 2 1 rfl (by decide) (by decide) rfl wd_1243 (by decide +kernel) (by first | exact k9 | exact o2 | exact hk.1 | assumption | omega) ?_
            refine jblk hF [(.iload 4, 2)] (by decide +kernel) (pc' := 69) (lo' := [(6, (2, v_4)), (5, (2, v_3)), (0, (2, 3)), (1, (0, p)), (2, (0, n)), (3, (0, s)), (4, (0, j))]) (st' := [(0, j), (2, m_1 v_4 1)]) rfl ?_
            refine jlald hF (by decide +kernel) (by first | exact k9 | exact o2 | exact hk.1 | assumption | omega) (by omega) (by omega) ?_
            refine jblk hF [(.aload_n 0, 1)] (by decide +kernel) (pc' := 71) (lo' := [(6, (2, v_4)), (5, (2, v_3)), (0, (2, 3)), (1, (0, p)), (2, (0, n)), (3, (0, s)), (4, (0, j))]) (st' := [(2, 3), (1, m_1 (m_1 v_4 1) j)]) rfl ?_
            refine jget hF 12 9 2 9 rfl (by decide) (by decide) rfl wd_335 (by decide +kernel) (by exact hK.k3) ?_
            rw [HR.r3_9 hR_m_1]
            refine jget hF 3 0 2 0 rfl (by decide) (by decide) rfl wd_199 (by decide +kernel) (by exact hK.k10) ?_
            rw [HR.r10_0 hR_m_1]
            refine jblk hF [(.iload_n 2, 1)] (by decide +kernel) (pc' := 78) (lo' := [(6, (2, v_4)), (5, (2, v_3)), (0, (2, 3)), (1, (0, p)), (2, (0, n)), (3, (0, s)), (4, (0, j))]) (st' := [(0, n), (2, 11), (1, m_1 (m_1 v_4 1) j)]) rfl ?_
            refine jlald hF (by decide +kernel) (by exact hK.k11) (by omega) (by have := hK.l11; omega) ?_
            refine jblk hF [(.lsub, 1)] (by decide +kernel) (pc' := 80) (lo' := [(6, (2, v_4)), (5, (2, v_3)), (0, (2, 3)), (1, (0, p)), (2, (0, n)), (3, (0, s)), (4, (0, j))]) (st' := [(1, (m_1 (m_1 v_4 1) j) - (m_1 11 n))]) rfl ?_
            refine jwL0 ?_
            refine jblk hF [(.lstore 7, 2)] (by decide +kernel) (pc' := 82) (lo' := [(7, (1, wL ((m_1 (m_1 v_4 1) j) - (m_1 11 n)))), (6, (2, v_4)), (5, (2, v_3)), (0, (2, 3)), (1, (0, p)), (2, (0, n)), (3, (0, s)), (4, (0, j))]) (st' := []) rfl ?_
            obtain ⟨t, ht⟩ : ∃ q : Int, q = wL ((m_1 (m_1 v_4 1) j) - (m_1 11 n)) := ⟨_, rfl⟩
            rw [← ht]
            have ht2 : t = takV mem p n s j := by rw [ht, e8, e11]; unfold takV; rw [hce 99 _ (by omega)]
            have hti : InL t := by rw [ht]; exact wL_in _
            refine jblk hF [(.lload 7, 2)] (by decide +kernel) (pc' := 84) (lo' := [(7, (1, t)), (6, (2, v_4)), (5, (2, v_3)), (0, (2, 3)), (1, (0, p)), (2, (0, n)), (3, (0, s)), (4, (0, j))]) (st' := [(1, t)]) rfl ?_
            refine jlconst hF (n := 0) 0 rfl (by decide +kernel) ?_
            refine jlcmp_ne hF (off := 6) 92 (by decide +kernel) (by decide +kernel) (by decide) (by omega) (by decide) (fun h_13 => ?_) (fun h_13 => ?_)
            · refine jblk hF [(.lload 7, 2)] (by decide +kernel) (pc' := 94) (lo' := [(7, (1, t)), (6, (2, v_4)), (5, (2, v_3)), (0, (2, 3)), (1, (0, p)), (2, (0, n)), (3, (0, s)), (4, (0, j))]) (st' := [(1, t)]) rfl ?_
              refine jldc2 hF (-1000000) (cst_l wd_1275 (by decide)) (by decide +kernel) ?_
              refine jlcmp_lt hF (off := 12) 110 (by decide +kernel) (by decide +kernel) (by decide) (by omega) (by decide) (fun h_14 => ?_) (fun h_14 => ?_)
              · have hou : (takV mem p n s j < -1000000 ∨ takV mem p n s j > 1000000 ∨ mem 35 45 = 60) := by rw [← ht2]; omega
                refine jblk hF [(.iconst (-1), 1)] (by decide +kernel) (pc' := 111) (lo' := [(7, (1, t)), (6, (2, v_4)), (5, (2, v_3)), (0, (2, 3)), (1, (0, p)), (2, (0, n)), (3, (0, s)), (4, (0, j))]) (st' := [(0, (-1))]) rfl ?_
                refine jwiden (k := 2) (n := 106) (Nat.le_of_ble_eq_true rfl) (Nat.le_of_ble_eq_true rfl) ?_
                refine jiret hF hr (by decide +kernel) ?_
                exact ⟨_, rfl, EXT.rf, ⟨hR_m_1, by exact ⟨fun u => absurd hta u, fun _ u => absurd htb u, fun _ _ => ⟨fun u => by rw [← ht2] at u; omega, fun _ _ => ⟨rfl, hg0⟩, fun _ u => absurd hou u⟩, hmk⟩⟩⟩
              · refine jblk hF [(.lload 7, 2)] (by decide +kernel) (pc' := 103) (lo' := [(7, (1, t)), (6, (2, v_4)), (5, (2, v_3)), (0, (2, 3)), (1, (0, p)), (2, (0, n)), (3, (0, s)), (4, (0, j))]) (st' := [(1, t)]) rfl ?_
                refine jldc2 hF 1000000 (cst_l wd_1276 (by decide)) (by decide +kernel) ?_
                refine jlcmp_le hF (off := 5) 112 (by decide +kernel) (by decide +kernel) (by decide) (by omega) (by decide) (fun h_15 => ?_) (fun h_15 => ?_)
                · refine jblk hF [(.aload_n 0, 1), (.iload_n 1, 1), (.iload_n 2, 1), (.bipush 9, 2), (.lload 7, 2), (.l2i, 1)] (by decide +kernel) (pc' := 120) (lo' := [(7, (1, t)), (6, (2, v_4)), (5, (2, v_3)), (0, (2, 3)), (1, (0, p)), (2, (0, n)), (3, (0, s)), (4, (0, j))]) (st' := [(0, t), (0, 9), (0, n), (0, p), (2, 3)]) rfl ?_
                  refine jcallV hF (c_X11_slip hG hK hR_m_1 p n 9 t (by exact tg) (by assumption) (by assumption) (by exact mi) (by assumption) (by omega) (by omega) (by decide) (by omega)) MW_X11_slip 12 (by decide) (by exact hK.k3) wd_1277 wd_882 wd_883 (by decide +kernel) [] rfl rfl (by decide) (Nat.le_of_ble_eq_true rfl) (by decide) (kXR (fun v_16 kd_16 ln_16 m_16 sz_16 hE_16 h_16 => ?_))
                  obtain ⟨hR_m_16, h_16⟩ := h_16
                  have hEE_16 : EXT kd ln sz kd_16 ln_16 sz_16 := (EXT.rf).tr hE_16
                  have hK_16 : HK kd_16 ln_16 := hK.ext hE_16 (by omega)
                  have hsp := h_16
                  have c45 : m_1 35 45 = mem 35 45 := hce 35 45 (by decide)
                  have hst : slipC m_1 p n 9 t ↔ mem 35 45 ≠ 60 := ⟨fun u => by have := u.2.2.2.2.2; omega, fun u => ⟨⟨⟨hpg.1.1.1, by rw [hce 35 33 (by decide)]; exact hpg.1.1.2⟩, by rw [hc47]; exact hpg.1.2⟩, by rw [hc52, hc49]; omega, Or.inl rfl, by omega, by omega, by omega⟩⟩
                  have hR_m_16 : HR m_16 := hR_m_16
                  have hEs := hE_16
                  refine jwiden (k := 2) (n := 106) (Nat.le_of_ble_eq_true rfl) (Nat.le_of_ble_eq_true rfl) ?_
                  refine jiret hF hr (by decide +kernel) ?_
                  exact ⟨_, rfl, hEE_16, ⟨hR_m_16, by (have hzs := hEs.1; by_cases w60 : mem 35 45 = 60; (have := hsp.2.1 (fun u => hst.mp u w60); exact ⟨fun u => absurd hta u, fun _ u => absurd htb u, fun _ _ => ⟨fun u => by rw [← ht2] at u; omega, fun _ _ => ⟨this.1, this.2.eqs (by omega) (hce.sym)⟩, fun _ u => absurd (Or.inr (Or.inr w60)) u⟩, hmk.tr hsp.2.2⟩); (have := hsp.1 (hst.mpr w60); exact ⟨fun u => absurd hta u, fun _ u => absurd htb u, fun _ _ => ⟨fun u => by rw [← ht2] at u; omega, fun _ u => absurd u (by rw [← ht2]; omega), fun _ _ => ⟨this.1.trans c45, by rw [← ht2]; exact this.2.eqs (by omega) (slipM_eqs hce.sym)⟩⟩, hmk.tr hsp.2.2⟩))⟩⟩
                · have hou : (takV mem p n s j < -1000000 ∨ takV mem p n s j > 1000000 ∨ mem 35 45 = 60) := by rw [← ht2]; omega
                  refine jblk hF [(.iconst (-1), 1)] (by decide +kernel) (pc' := 111) (lo' := [(7, (1, t)), (6, (2, v_4)), (5, (2, v_3)), (0, (2, 3)), (1, (0, p)), (2, (0, n)), (3, (0, s)), (4, (0, j))]) (st' := [(0, (-1))]) rfl ?_
                  refine jwiden (k := 2) (n := 106) (Nat.le_of_ble_eq_true rfl) (Nat.le_of_ble_eq_true rfl) ?_
                  refine jiret hF hr (by decide +kernel) ?_
                  exact ⟨_, rfl, EXT.rf, ⟨hR_m_1, by exact ⟨fun u => absurd hta u, fun _ u => absurd htb u, fun _ _ => ⟨fun u => by rw [← ht2] at u; omega, fun _ _ => ⟨rfl, hg0⟩, fun _ u => absurd hou u⟩, hmk⟩⟩⟩
            · refine jblk hF [(.bipush (-3), 2)] (by decide +kernel) (pc' := 91) (lo' := [(7, (1, t)), (6, (2, v_4)), (5, (2, v_3)), (0, (2, 3)), (1, (0, p)), (2, (0, n)), (3, (0, s)), (4, (0, j))]) (st' := [(0, (-3))]) rfl ?_
              refine jwiden (k := 2) (n := 106) (Nat.le_of_ble_eq_true rfl) (Nat.le_of_ble_eq_true rfl) ?_
              refine jiret hF hr (by decide +kernel) ?_
              exact ⟨_, rfl, EXT.rf, ⟨hR_m_1, by exact ⟨fun u => absurd hta u, fun _ u => absurd htb u, fun _ _ => ⟨fun _ => ⟨rfl, hg0⟩, fun u => absurd (by rw [← ht2]; assumption) u, fun u => absurd (by rw [← ht2]; assumption) u⟩, hmk⟩⟩⟩
          · refine jif_ne hF (off := 6) 62 (by decide +kernel) (by decide) (by decide) (fun h => absurd h (by decide)) (fun _ => ?_)
            have hnb : ¬ takB mem s j := by omega
            refine jblk hF [(.bipush (-2), 2)] (by decide +kernel) (pc' := 61) (lo' := [(6, (2, v_4)), (5, (2, v_3)), (0, (2, 3)), (1, (0, p)), (2, (0, n)), (3, (0, s)), (4, (0, j))]) (st' := [(0, (-2))]) rfl ?_
            refine jwiden (k := 2) (n := 106) (Nat.le_of_ble_eq_true rfl) (Nat.le_of_ble_eq_true rfl) ?_
            refine jiret hF hr (by decide +kernel) ?_
            exact ⟨_, rfl, EXT.rf, ⟨hR_m_1, by exact ⟨fun u => absurd hta u, fun _ _ => ⟨rfl, hg0⟩, fun _ u => absurd u hnb, hmk⟩⟩⟩
      · refine jif_ne hF (off := 5) 40 (by decide +kernel) (by decide) (by decide) (fun h => absurd h (by decide)) (fun _ => ?_)
        have hng : ¬ takA mem p n s := fun u => by first | omega | exact (hw.2.2 (by omega)).1 ⟨u.1, hkn⟩ | (have := (hvs.2 (by omega)).1; omega)
        refine jblk hF [(.iconst (-1), 1)] (by decide +kernel) (pc' := 39) (lo' := [(6, (2, v_4)), (5, (2, v_3)), (0, (2, 3)), (1, (0, p)), (2, (0, n)), (3, (0, s)), (4, (0, j))]) (st' := [(0, (-1))]) rfl ?_
        refine jwiden (k := 2) (n := 106) (Nat.le_of_ble_eq_true rfl) (Nat.le_of_ble_eq_true rfl) ?_
        refine jiret hF hr (by decide +kernel) ?_
        exact ⟨_, rfl, EXT.rf, ⟨hR_m_1, by exact ⟨fun _ => ⟨rfl, hg0⟩, fun u => absurd u hng, fun u => absurd u hng, hmk⟩⟩⟩
end
