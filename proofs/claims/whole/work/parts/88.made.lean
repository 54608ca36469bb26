section
/-- only the figures have changed -/
def SCF (mem mm : Int → Int → Int) : Prop := ∀ a j : Int, a ≠ 11 → a ≠ 12 → a ≠ 13 → mm a j = mem a j
theorem SCF.rf {mem : Int → Int → Int} : SCF mem mem := fun _ _ _ _ _ => rfl
theorem SCF.tr {a b c : Int → Int → Int} (h1 : SCF a b) (h2 : SCF b c) : SCF a c := fun x j q1 q2 q3 => (h2 x j q1 q2 q3).trans (h1 x j q1 q2 q3)
theorem INV.scf {kd : Int → Nat} {ln : Int → Int} {mem mm : Int → Int → Int} {sz : Nat} {tg : Int → Int} (h : INV kd ln mem sz tg) (hf : SCF mem mm) : INV kd ln mm sz tg :=
  h.fr (fun a j q => hf a j (by omega) (by omega) (by omega)) (by have w := h.1.2.2.2.2.2; rw [show EB mm = EB mem by unfold EB; rw [hf 7 3 (by decide) (by decide) (by decide), hf 7 4 (by decide) (by decide) (by decide), hf 7 5 (by decide) (by decide) (by decide)]]; exact w)
/-- the figures of a page stand, as known in q -/
def MDP (mem mm : Int → Int → Int) (p q : Int) : Prop := (∀ n : Int, 0 ≤ n → n < mem 47 p → mm 11 n = numQ mem p n q) ∧ ∀ n j : Int, 0 ≤ n → n < mem 47 p → mem 49 p ≤ n % mem 52 p → 0 ≤ j → j ≤ mem 49 p → mm 12 (n * 5 + j) = colQ mem p n j q
theorem PB.fr {mem m : Int → Int → Int} {p : Int} (hPB : PB mem p) (h : ∀ j : Int, m p j = mem p j) : PB m p := by
  show 2 ≤ m p 2 ∧ m p 2 ≤ 40 ∧ 1 ≤ m p 1 ∧ m p 1 ≤ 9999 ∧ 1 ≤ m p 3 ∧ m p 3 ≤ 50 ∧ 1 ≤ m p 4 ∧ m p 4 ≤ 4 ∧ 0 ≤ m p 5 ∧ m p 5 ≤ 5 ∧ 0 ≤ m p 6 ∧ m p 5 + m p 6 ≤ 6 ∧ m p 4 + 2 ≤ m p 7 ∧ m p 7 ≤ 40 ∧ 0 ≤ m p 8 ∧ m p 8 ≤ 2
  rw [h 1, h 2, h 3, h 4, h 5, h 6, h 7, h 8]
  exact hPB
section
variable {mem m : Int → Int → Int} {p q i : Int}
theorem adn_skip {f : Int → Int} (h0 : 0 ≤ i) (hn : ¬ (mem 63 i = p ∧ cntS mem i q)) (hf : ∀ j : Int, 0 ≤ j → j < 200 → f j = adN mem p q i.toNat j) : ∀ j : Int, 0 ≤ j → j < 200 → f j = adN mem p q (i + 1).toNat j := fun j j1 j2 => by
  rw [adN_s h0, if_neg (fun w => hn ⟨w.1, w.2.1⟩), Int.add_zero]
  exact hf j j1 j2
theorem adn_add {x a : Int} (h0 : 0 ≤ i) (hn : mem 63 i = p ∧ cntS mem i q) (hx : x = 5 * mem 64 i + slotV (mem 65 i)) (ha : a = mem 66 i) (hf : ∀ j : Int, 0 ≤ j → j < 200 → m 13 j = adN mem p q i.toNat j) : ∀ j : Int, 0 ≤ j → j < 200 → set2 m 13 x (m 13 x + a) 13 j = adN mem p q (i + 1).toNat j := fun j j1 j2 => by
  rw [adN_s h0]
  by_cases e : j = x
  · subst e
    rw [s2_s, if_pos ⟨hn.1, hn.2, hx.symm⟩, hf _ j1 j2, ha]
  · rw [s2_k e, if_neg (fun w => e (by rw [hx]; exact w.2.2.symm)), Int.add_zero]
    exact hf j j1 j2
end
/-- a made page's figures are the model's -/
theorem MDP.of {kd : Int → Nat} {ln : Int → Int} {mem m mm : Int → Int → Int} {sz : Nat} {tg : Int → Int} {p q v : Int} (hI : INV kd ln mem sz tg) (hP : PAGV kd ln mem sz tg p v) (hf : ∀ b j : Int, b ≠ 13 → m b j = mem b j) (ha : ∀ j : Int, 0 ≤ j → j < 200 → m 13 j = adS mem p q j) (h : FPG m mm v (m v 2)) : MDP mem mm p q ∧ SCF mem mm := by
  have hv := hP.at
  obtain ⟨g0, g1, g2, g3, g4, g5, g6, g7, g8⟩ := hP.nm
  have h13 := hP.r8 (k := 13) (Or.inl rfl)
  have hpg := hP.2.2
  have en : m (m v 13) = mem (mem v 13) := by rw [hf v 13 (by omega)]; exact funext fun j => hf _ j (by omega)
  obtain ⟨h1, h2, h3⟩ := h
  rw [en, hf v 4 (by omega), hf v 7 (by omega), hf v 2 (by omega), g4, g7, g2] at h2 h3
  have hnr : ∀ i : Int, 0 ≤ i → i < mem 47 p → mem (mem v 13) i = nearP mem p i := fun i w1 w2 => (hP.2.1.2.2.1 i w1 w2).2.2.2.2.2.1
  refine ⟨⟨fun n w1 w2 => ?_, fun n j w1 w2 w3 w4 w5 => ?_⟩, fun a j w1 w2 w3 => (h1 a j w1 w2).trans (hf a j w3)⟩
  · rw [h2 n w1 w2]
    have hb := blk_st (m := mem 52 p) (n := n) (by omega) w1
    exact numF_cg (by omega) (by omega) w1 (fun i u1 u2 => hnr i (by omega) (by omega)) (fun i c u1 u2 u3 u4 u5 => ha _ (by omega) (by omega))
  · rw [h3 n j w1 w2 w3 w4 w5]
    have hb := blk_st (m := mem 52 p) (n := n) (by omega) w1
    exact rowF_cg (by omega) (by omega) w1 w3 ⟨w4, w5⟩ (fun i u1 u2 => hnr i (by omega) (by omega)) (fun i c u1 u2 u3 u4 => ha _ (by omega) (by omega))
set_option maxHeartbeats 4000000 in
set_option maxRecDepth 100000 in
theorem c_X11_madePage {l : Launch} {g : GP} (hG : GH g) {kd : Int → Nat} {ln : Int → Int} {mem : Int → Int → Int} {sz : Nat} (hK : HK kd ln) (hR : HR mem) (p q : Int) (tg : Int → Int) (hI : INV kd ln mem sz tg) (h_p : InI p) (h_q : InI q) : MT l g yX11_madePage cX11_madePage 6 (some (.object "FigureHouse$Page")) 4 0 0 [(2, 3), (0, p), (0, q)] kd ln mem sz (pMR 2 (fun v mem' => HR mem' ∧ (SCF mem mem' ∧ (0 ≤ v → (isPg mem p ∧ isKn mem q) ∧ PAGV kd ln mem sz tg p v ∧ MDP mem mem' p q) ∧ (v < 0 → ¬ (isPg mem p ∧ isKn mem q) ∧ v = -1 ∧ mem' = mem))) kd ln sz) := by
  refine MT_of hG (by decide +kernel) (Nat.le_of_ble_eq_true rfl) (fun z hF hr hn => ?_)
  obtain ⟨⟨q0, q1, q2, q3, q4, q5⟩, u0, u2, u46, u89, usz⟩ := hI.num
  have n29 : 0 ≤ mem 35 33 ∧ mem 35 33 ≤ 12 := ⟨hI.pgs.1, hI.pgs.2.1⟩
  have n30 : 0 ≤ mem 35 45 ∧ mem 35 45 ≤ 60 := ⟨hI.sls.1, hI.sls.2.1⟩
  obtain ⟨e29, k29, r29, b29, c29⟩ := hI.g29.ls
  obtain ⟨e30, k30, r30, b30, c30⟩ := hI.g30.ls
  refine jblk hF [(.aload_n 0, 1), (.iload_n 1, 1)] (by decide +kernel) (pc' := 2) (lo' := [(0, (2, 3)), (1, (0, p)), (2, (0, q))]) (st' := [(0, p), (2, 3)]) rfl ?_
  refine jcallV hF (c_X11_pageAt hG hK hR p (by exact tg) (by assumption) (by omega)) MW_X11_pageAt 12 (by decide) (by exact hK.k3) wd_851 wd_853 wd_p24 (by decide +kernel) [] rfl rfl (by decide) (Nat.le_of_ble_eq_true rfl) (by decide) (kR (fun v_1 h_2 => ?_))
  have hv := h_2
  refine jblk hF [(.astore_n 3, 1), (.aload_n 3, 1)] (by decide +kernel) (pc' := 7) (lo' := [(3, (2, v_1)), (0, (2, 3)), (1, (0, p)), (2, (0, q))]) (st' := [(2, v_1)]) rfl ?_
  refine jnull hF (off := 11) 18 (by decide +kernel) (by decide) (fun h_3 => ?_) (fun h_3 => ?_)
  · have hng : ¬ (isPg mem p ∧ isKn mem q) := fun w => by first | omega | exact (hv.2 (by omega)).1 w.1
    refine jblk hF [(.aconst_null, 1)] (by decide +kernel) (pc' := 19) (lo' := [(3, (2, v_1)), (0, (2, 3)), (1, (0, p)), (2, (0, q))]) (st' := [(2, (-1))]) rfl ?_
    refine jaret hF hr (Or.inl ⟨_, rfl⟩) (by decide +kernel) ?_
    exact lMR ⟨hR, by exact ⟨SCF.rf, fun w => absurd w (by decide), fun _ => ⟨hng, rfl, rfl⟩⟩⟩
  · obtain ⟨hpg, hpo⟩ := hv.1 (by omega)
    have hk := hpo.at
    have hpb := hpo.pb
    have h13 := hpo.r8 (k := 13) (Or.inl rfl)
    refine jblk hF [(.aload_n 0, 1), (.iload_n 2, 1)] (by decide +kernel) (pc' := 12) (lo' := [(3, (2, v_1)), (0, (2, 3)), (1, (0, p)), (2, (0, q))]) (st' := [(0, q), (2, 3)]) rfl ?_
    refine jcallV hF (c_X11_isDay hG hK hR q (by exact tg) (by assumption) (by omega)) MW_X11_isDay 12 (by decide) (by exact hK.k3) wd_398 wd_400 wd_p1 (by decide +kernel) [] rfl rfl (by decide) (Nat.le_of_ble_eq_true rfl) (by decide) (kB (fun h_4 => ?_) (fun h_4 => ?_))
    · refine jif_ne hF (off := 5) 20 (by decide +kernel) (by decide) (by decide) (fun _ => ?_) (fun h => absurd h (by decide))
      refine jblk hF [(.aload_n 0, 1)] (by decide +kernel) (pc' := 21) (lo' := [(3, (2, v_1)), (0, (2, 3)), (1, (0, p)), (2, (0, q))]) (st' := [(2, 3)]) rfl ?_
      refine jget hF 12 9 2 9 rfl (by decide) (by decide) rfl wd_335 (by decide +kernel) (by exact hK.k3) ?_
      rw [HR.r3_9 hR]
      refine jcallV hF (c_X2_begin hG hK hR) MW_X2_begin 3 (by decide) (by exact hK.k10) wd_803 wd_804 wd_805 (by decide +kernel) [] rfl rfl (by decide) (Nat.le_of_ble_eq_true rfl) (by decide) (kMV (fun m_6 h_7 => ?_))
      obtain ⟨hR_m_6, h_7⟩ := h_7
      have hbg := h_7
      refine jblk hF [(.iconst 0, 1), (.istore 4, 2)] (by decide +kernel) (pc' := 30) (lo' := [(4, (0, 0)), (3, (2, v_1)), (0, (2, 3)), (1, (0, p)), (2, (0, q))]) (st' := []) rfl ?_
      have L_9 : ∀ (fu_10 : Nat) (i : Int) (m : Int → Int → Int), (HR m) → (0 ≤ i ∧ i ≤ mem 35 45) → (∀ b j : Int, b ≠ 13 → m b j = mem b j) → (∀ j : Int, 0 ≤ j → j < 200 → m 13 j = adN mem p q i.toNat j) →  (mem 35 45 - i).toNat < fu_10 → J z g 6 0 0 (QM z g 0 0 (pMR 2 (fun v mem' => HR mem' ∧ (SCF mem mem' ∧ (0 ≤ v → (isPg mem p ∧ isKn mem q) ∧ PAGV kd ln mem sz tg p v ∧ MDP mem mem' p q) ∧ (v < 0 → ¬ (isPg mem p ∧ isKn mem q) ∧ v = -1 ∧ mem' = mem))) kd ln sz)) 30 [(0, (2, 3)), (1, (0, p)), (2, (0, q)), (3, (2, v_1)), (4, (0, i))] [] kd ln m sz := by
        intro fu_10
        induction fu_10 with
        | zero => intro i m _ _ _ _ hm; omega
        | succ fu_10 ih_8 =>
          intro i m hR_m hi hf ha hm
          have f301 : m 30 1 = mem 30 1 := hf 30 1 (by decide)
          have e30m : m 30 2 = mem 35 45 := (hf 30 2 (by decide)).trans e30
          have r30m : kd (m 30 1) = 23 := by rw [f301]; exact r30
          have c30m : m 30 2 ≤ ln (m 30 1) := by rw [f301, e30m]; exact b30
          have w30 : m (m 30 1) i = mem (mem 30 1) i := by rw [f301]; exact hf _ _ (by intro w; rw [w] at r30; have := hK.k13; omega)
          refine jblk hF [(.iload 4, 2), (.aload_n 0, 1)] (by decide +kernel) (pc' := 33) (lo' := [(0, (2, 3)), (1, (0, p)), (2, (0, q)), (3, (2, v_1)), (4, (0, i))]) (st' := [(2, 3), (0, i)]) rfl ?_
          refine jget hF 12 15 2 15 rfl (by decide) (by decide) rfl wd_341 (by decide +kernel) (by exact hK.k3) ?_
          rw [HR.r3_15 hR_m]
          refine jcallV hF (c_Jx4a65c_size_8abf5 hG 30 (by first | assumption | omega)) MW_Jx4a65c_size_8abf5 0 (by decide) (by exact hK.k30) wd_410 wd_411 wd_412 (by decide +kernel) [(0, i)] rfl rfl (by decide) (Nat.le_of_ble_eq_true rfl) (by decide) (kV ?_)
          rw [e30m]
          refine jicmp_ge hF (off := 64) 103 (by decide +kernel) (by decide) (by omega) (by omega) (fun h_11 => ?_) (fun h_11 => ?_)
          · have hPm : PB m v_1 := PB.fr hpb (fun j => hf v_1 j (by omega))
            have e13m : m v_1 13 = mem v_1 13 := hf _ _ (by omega)
            refine jblk hF [(.aload_n 0, 1)] (by decide +kernel) (pc' := 104) (lo' := [(0, (2, 3)), (1, (0, p)), (2, (0, q)), (3, (2, v_1)), (4, (0, i))]) (st' := [(2, 3)]) rfl ?_
            refine jget hF 12 9 2 9 rfl (by decide) (by decide) rfl wd_335 (by decide +kernel) (by exact hK.k3) ?_
            rw [HR.r3_9 hR_m]
            refine jblk hF [(.aload_n 3, 1)] (by decide +kernel) (pc' := 108) (lo' := [(0, (2, 3)), (1, (0, p)), (2, (0, q)), (3, (2, v_1)), (4, (0, i))]) (st' := [(2, v_1), (2, 10)]) rfl ?_
            refine jcallV hF (c_X2_make hG hK hR_m v_1 (by exact hk.1) (by omega) (by exact hPm) (by (rw [e13m]; exact h13)) (by omega)) MW_X2_make 3 (by decide) (by exact hK.k10) wd_810 wd_811 wd_812 (by decide +kernel) [] rfl rfl (by decide) (Nat.le_of_ble_eq_true rfl) (by decide) (kMV (fun m_12 h_13 => ?_))
            obtain ⟨hR_m_12, h_13⟩ := h_13
            have hfp := h_13
            have hres := MDP.of hI hpo hf (fun j j1 j2 => by rw [show adS mem p q = adN mem p q i.toNat by unfold adS; rw [show i = mem 35 45 by omega]]; exact ha j j1 j2) hfp
            refine jblk hF [(.aload_n 3, 1)] (by decide +kernel) (pc' := 112) (lo' := [(0, (2, 3)), (1, (0, p)), (2, (0, q)), (3, (2, v_1)), (4, (0, i))]) (st' := [(2, v_1)]) rfl ?_
            refine jaret hF hr (Or.inl ⟨_, rfl⟩) (by decide +kernel) ?_
            exact lMR ⟨hR_m_12, by exact ⟨hres.2, fun _ => ⟨⟨hpg, by omega⟩, hpo, hres.1⟩, fun w => by omega⟩⟩
          · refine jblk hF [(.aload_n 0, 1)] (by decide +kernel) (pc' := 43) (lo' := [(0, (2, 3)), (1, (0, p)), (2, (0, q)), (3, (2, v_1)), (4, (0, i))]) (st' := [(2, 3)]) rfl ?_
            refine jget hF 12 15 2 15 rfl (by decide) (by decide) rfl wd_341 (by decide +kernel) (by exact hK.k3) ?_
            rw [HR.r3_15 hR_m]
            refine jblk hF [(.iload 4, 2)] (by decide +kernel) (pc' := 48) (lo' := [(0, (2, 3)), (1, (0, p)), (2, (0, q)), (3, (2, v_1)), (4, (0, i))]) (st' := [(0, i), (2, 30)]) rfl ?_
            refine jcallV hF (c_Jx4a65c_get_915e3 hG 30 i (by first | assumption | omega) (by first | assumption | omega) (by omega)) MW_Jx4a65c_get_915e3 0 (by decide) (by exact hK.k30) wd_498 wd_499 wd_500 (by decide +kernel) [] rfl rfl (by decide) (Nat.le_of_ble_eq_true rfl) (by decide) (kV ?_)
            rw [w30]
            obtain ⟨sl, hsl⟩ : ∃ y : Int, y = mem (mem 30 1) i := ⟨_, rfl⟩
            have hob := hI.slp (s := i) (by omega) (by omega)
            rw [← hsl]
            rw [← hsl] at hob
            have hok := hob.1
            obtain ⟨g1, g2, g3, g4, g5, g6⟩ := hob.2.1
            have hsf := hob.2.2
            have f0 : m sl 0 = mem 63 i := (hf sl 0 (by omega)).trans g1
            have f1 : m sl 1 = mem 64 i := (hf sl 1 (by omega)).trans g2
            have f2 : m sl 2 = mem 65 i := (hf sl 2 (by omega)).trans g3
            have f3 : m sl 3 = mem 66 i := (hf sl 3 (by omega)).trans g4
            have f4 : m sl 4 = mem 67 i := (hf sl 4 (by omega)).trans g5
            have f5 : m sl 5 = mem 68 i := (hf sl 5 (by omega)).trans g6
            have hwp := (hI.pgs).2.2 (mem 63 i) (by omega) (by omega)
            refine jcast hF 9 (by decide) wd_895 (by decide +kernel) (by first | exact hok.1 | exact hk.1 | assumption | omega) ?_
            refine jblk hF [(.astore 5, 2), (.aload 5, 2)] (by decide +kernel) (pc' := 58) (lo' := [(5, (2, sl)), (0, (2, 3)), (1, (0, p)), (2, (0, q)), (3, (2, v_1)), (4, (0, i))]) (st' := [(2, sl)]) rfl ?_
            refine jget hF 9 0 0 0 rfl (by decide) (by decide) rfl wd_902 (by decide +kernel) (by first | exact hok.1 | exact hk.1 | assumption | omega) ?_
            refine jblk hF [(.iload_n 1, 1)] (by decide +kernel) (pc' := 62) (lo' := [(5, (2, sl)), (0, (2, 3)), (1, (0, p)), (2, (0, q)), (3, (2, v_1)), (4, (0, i))]) (st' := [(0, p), (0, m sl 0)]) rfl ?_
            refine jicmp_ne hF (off := 35) 97 (by decide +kernel) (by decide) (by omega) (by omega) (fun h_14 => ?_) (fun h_14 => ?_)
            · have hfN : ∀ b j : Int, b ≠ 13 → m b j = mem b j := by first | exact hf | (intro b j w; rw [hadd]; exact (s2_a w).trans (hf b j w))
              have haN : ∀ j : Int, 0 ≤ j → j < 200 → m 13 j = adN mem p q (i + 1).toNat j := by first | exact adn_skip (by omega) (fun w => by first | omega | (have := w.2; omega)) ha | (rw [hadd, f1, f2, f3]; exact adn_add (by omega) ⟨by omega, by omega⟩ (by omega) rfl ha)
              refine jblk hF [(.iinc 4 1, 3)] (by decide +kernel) (pc' := 100) (lo' := [(4, (0, i + 1)), (5, (2, sl)), (0, (2, 3)), (1, (0, p)), (2, (0, q)), (3, (2, v_1))]) (st' := []) rfl ?_
              refine jgoto hF (off := (-70)) 30 (by decide +kernel) (by decide) ?_
              refine jsub [2, 3, 4, 5, 0] rfl ?_
              refine ih_8 (i + 1) m ?_ ?_ ?_ ?_ ?_
              · exact hR_m
              · omega
              · exact hfN
              · exact haN
              · omega
            · refine jblk hF [(.aload 5, 2), (.iload_n 2, 1)] (by decide +kernel) (pc' := 68) (lo' := [(5, (2, sl)), (0, (2, 3)), (1, (0, p)), (2, (0, q)), (3, (2, v_1)), (4, (0, i))]) (st' := [(0, q), (2, sl)]) rfl ?_
              refine jcallV hF (c_X8_isKnownIn hG sl q (by first | assumption | omega) (by exact ⟨by omega, by omega⟩) (by omega)) MW_X8_isKnownIn 9 (by decide) (by first | exact hok.1 | exact hk.1 | assumption | omega) wd_944 wd_945 wd_946 (by decide +kernel) [] rfl rfl (by decide) (Nat.le_of_ble_eq_true rfl) (by decide) (kB (fun h_15 => ?_) (fun h_15 => ?_))
              · refine jif_eq hF (off := 26) 97 (by decide +kernel) (by decide) (by decide) (fun h => absurd h (by decide)) (fun _ => ?_)
                refine jblk hF [(.aload_n 0, 1)] (by decide +kernel) (pc' := 75) (lo' := [(5, (2, sl)), (0, (2, 3)), (1, (0, p)), (2, (0, q)), (3, (2, v_1)), (4, (0, i))]) (st' := [(2, 3)]) rfl ?_
                refine jget hF 12 9 2 9 rfl (by decide) (by decide) rfl wd_335 (by decide +kernel) (by exact hK.k3) ?_
                rw [HR.r3_9 hR_m]
                refine jblk hF [(.aload 5, 2)] (by decide +kernel) (pc' := 80) (lo' := [(5, (2, sl)), (0, (2, 3)), (1, (0, p)), (2, (0, q)), (3, (2, v_1)), (4, (0, i))]) (st' := [(2, sl), (2, 10)]) rfl ?_
                refine jget hF 9 1 0 1 rfl (by decide) (by decide) rfl wd_905 (by decide +kernel) (by first | exact hok.1 | exact hk.1 | assumption | omega) ?_
                refine jblk hF [(.aload 5, 2)] (by decide +kernel) (pc' := 85) (lo' := [(5, (2, sl)), (0, (2, 3)), (1, (0, p)), (2, (0, q)), (3, (2, v_1)), (4, (0, i))]) (st' := [(2, sl), (0, m sl 1), (2, 10)]) rfl ?_
                refine jget hF 9 2 0 2 rfl (by decide) (by decide) rfl wd_908 (by decide +kernel) (by first | exact hok.1 | exact hk.1 | assumption | omega) ?_
                refine jblk hF [(.aload 5, 2)] (by decide +kernel) (pc' := 90) (lo' := [(5, (2, sl)), (0, (2, 3)), (1, (0, p)), (2, (0, q)), (3, (2, v_1)), (4, (0, i))]) (st' := [(2, sl), (0, m sl 2), (0, m sl 1), (2, 10)]) rfl ?_
                refine jget hF 9 3 0 3 rfl (by decide) (by decide) rfl wd_911 (by decide +kernel) (by first | exact hok.1 | exact hk.1 | assumption | omega) ?_
                refine ji2l hF (by decide +kernel) (by omega) ?_
                refine jcallV hF (c_X2_add hG hK hR_m (m sl 1) (m sl 2) (m sl 3) (by omega)) MW_X2_add 3 (by decide) (by exact hK.k10) wd_952 wd_953 wd_954 (by decide +kernel) [] rfl rfl (by decide) (Nat.le_of_ble_eq_true rfl) (by decide) (kMV (fun m_17 h_18 => ?_))
                obtain ⟨hR_m_17, h_18⟩ := h_18
                have hadd := h_18
                have hfN : ∀ b j : Int, b ≠ 13 → m_17 b j = mem b j := by first | exact hf | (intro b j w; rw [hadd]; exact (s2_a w).trans (hf b j w))
                have haN : ∀ j : Int, 0 ≤ j → j < 200 → m_17 13 j = adN mem p q (i + 1).toNat j := by first | exact adn_skip (by omega) (fun w => by first | omega | (have := w.2; omega)) ha | (rw [hadd, f1, f2, f3]; exact adn_add (by omega) ⟨by omega, by omega⟩ (by omega) rfl ha)
                refine jblk hF [(.iinc 4 1, 3)] (by decide +kernel) (pc' := 100) (lo' := [(4, (0, i + 1)), (5, (2, sl)), (0, (2, 3)), (1, (0, p)), (2, (0, q)), (3, (2, v_1))]) (st' := []) rfl ?_
                refine jgoto hF (off := (-70)) 30 (by decide +kernel) (by decide) ?_
                refine jsub [2, 3, 4, 5, 0] rfl ?_
                refine ih_8 (i + 1) m_17 ?_ ?_ ?_ ?_ ?_
                · exact hR_m_17
                · omega
                · exact hfN
                · exact haN
                · omega
              · refine jif_eq hF (off := 26) 97 (by decide +kernel) (by decide) (by decide) (fun _ => ?_) (fun h => absurd h (by decide))
                have hfN : ∀ b j : Int, b ≠ 13 → m b j = mem b j := by first | exact hf | (intro b j w; rw [hadd]; exact (s2_a w).trans (hf b j w))
                have haN : ∀ j : Int, 0 ≤ j → j < 200 → m 13 j = adN mem p q (i + 1).toNat j := by first | exact adn_skip (by omega) (fun w => by first | omega | (have := w.2; omega)) ha | (rw [hadd, f1, f2, f3]; exact adn_add (by omega) ⟨by omega, by omega⟩ (by omega) rfl ha)
                refine jblk hF [(.iinc 4 1, 3)] (by decide +kernel) (pc' := 100) (lo' := [(4, (0, i + 1)), (5, (2, sl)), (0, (2, 3)), (1, (0, p)), (2, (0, q)), (3, (2, v_1))]) (st' := []) rfl ?_
                refine jgoto hF (off := (-70)) 30 (by decide +kernel) (by decide) ?_
                refine jsub [2, 3, 4, 5, 0] rfl ?_
                refine ih_8 (i + 1) m ?_ ?_ ?_ ?_ ?_
                · exact hR_m
                · omega
                · exact hfN
                · exact haN
                · omega
      refine jsub [2, 3, 4, 1, 0] rfl ?_
      refine L_9 _ 0 m_6 ?_ ?_ ?_ ?_ (Nat.lt_succ_self _)
      · exact hR_m_6
      · omega
      · (intro b j w; rw [hbg]; exact if_neg (fun u => w u.1))
      · (intro j j1 j2; rw [hbg]; exact if_pos ⟨rfl, j1, j2⟩)
    · refine jif_ne hF (off := 5) 20 (by decide +kernel) (by decide) (by decide) (fun h => absurd h (by decide)) (fun _ => ?_)
      have hng : ¬ (isPg mem p ∧ isKn mem q) := fun w => by first | omega | exact (hv.2 (by omega)).1 w.1
      refine jblk hF [(.aconst_null, 1)] (by decide +kernel) (pc' := 19) (lo' := [(3, (2, v_1)), (0, (2, 3)), (1, (0, p)), (2, (0, q))]) (st' := [(2, (-1))]) rfl ?_
      refine jaret hF hr (Or.inl ⟨_, rfl⟩) (by decide +kernel) ?_
      exact lMR ⟨hR, by exact ⟨SCF.rf, fun w => absurd w (by decide), fun _ => ⟨hng, rfl, rfl⟩⟩⟩
set_option maxHeartbeats 4000000 in
set_option maxRecDepth 100000 in
theorem c_X11_madeWith {l : Launch} {g : GP} (hG : GH g) {kd : Int → Nat} {ln : Int → Int} {mem : Int → Int → Int} {sz : Nat} (hK : HK kd ln) (hR : HR mem) (p n q : Int) (tg : Int → Int) (hI : INV kd ln mem sz tg) (h_p : InI p) (h_n : InI n) (h_q : InI q) : MT l g yX11_madeWith cX11_madeWith 4 (some (.object "FigureHouse$Page")) 5 0 0 [(2, 3), (0, p), (0, n), (0, q)] kd ln mem sz (pMR 2 (fun v mem' => HR mem' ∧ (SCF mem mem' ∧ (0 ≤ v → (isLn mem p n ∧ isKn mem q) ∧ PAGV kd ln mem sz tg p v ∧ MDP mem mem' p q) ∧ (v < 0 → ¬ (isLn mem p n ∧ isKn mem q) ∧ v = -1 ∧ mem' = mem))) kd ln sz) := by
  refine MT_of hG (by decide +kernel) (Nat.le_of_ble_eq_true rfl) (fun z hF hr hn => ?_)
  obtain ⟨⟨q0, q1, q2, q3, q4, q5⟩, u0, u2, u46, u89, usz⟩ := hI.num
  refine jblk hF [(.aload_n 0, 1), (.iload_n 1, 1), (.iload_n 2, 1)] (by decide +kernel) (pc' := 3) (lo' := [(0, (2, 3)), (1, (0, p)), (2, (0, n)), (3, (0, q))]) (st' := [(0, n), (0, p), (2, 3)]) rfl ?_
  refine jcallV hF (c_X11_pageWith hG hK hR p n (by exact tg) (by assumption) (by omega) (by omega)) MW_X11_pageWith 12 (by decide) (by exact hK.k3) wd_869 wd_871 wd_p25 (by decide +kernel) [] rfl rfl (by decide) (Nat.le_of_ble_eq_true rfl) (by decide) (kR (fun v_1 h_2 => ?_))
  have hv := h_2
  refine jnonnull hF (off := 7) 13 (by decide +kernel) (by decide) (fun h_3 => ?_) (fun h_3 => ?_)
  · refine jblk hF [(.aload_n 0, 1), (.iload_n 1, 1), (.iload_n 3, 1)] (by decide +kernel) (pc' := 16) (lo' := [(0, (2, 3)), (1, (0, p)), (2, (0, n)), (3, (0, q))]) (st' := [(0, q), (0, p), (2, 3)]) rfl ?_
    refine jcallV hF (c_X11_madePage hG hK hR p q (by exact tg) (by assumption) (by omega) (by omega)) MW_X11_madePage 12 (by decide) (by exact hK.k3) wd_940 wd_942 wd_p27 (by decide +kernel) [] rfl rfl (by decide) (Nat.le_of_ble_eq_true rfl) (by decide) (kMR (fun v_6 m_4 h_5 => ?_))
    obtain ⟨hR_m_4, h_5⟩ := h_5
    have hw := h_5
    refine jaret hF hr (Or.inl ⟨_, rfl⟩) (by decide +kernel) ?_
    exact lMR ⟨hR_m_4, by first | exact ⟨SCF.rf, fun w => by omega, fun _ => ⟨fun w => (hv.2 (by omega)).1 w.1, rfl, rfl⟩⟩ | exact ⟨hw.1, fun w => ⟨⟨(hv.1 (by omega)).1, (hw.2.1 w).1.2⟩, (hw.2.1 w).2⟩, fun w => ⟨fun u => (hw.2.2 w).1 ⟨u.1.1, u.2⟩, (hw.2.2 w).2⟩⟩⟩
  · refine jblk hF [(.aconst_null, 1)] (by decide +kernel) (pc' := 10) (lo' := [(0, (2, 3)), (1, (0, p)), (2, (0, n)), (3, (0, q))]) (st' := [(2, (-1))]) rfl ?_
    refine jgoto hF (off := 9) 19 (by decide +kernel) (by decide) ?_
    refine jaret hF hr (Or.inl ⟨_, rfl⟩) (by decide +kernel) ?_
    exact lMR ⟨hR, by first | exact ⟨SCF.rf, fun w => by omega, fun _ => ⟨fun w => (hv.2 (by omega)).1 w.1, rfl, rfl⟩⟩ | exact ⟨hw.1, fun w => ⟨⟨(hv.1 (by omega)).1, (hw.2.1 w).1.2⟩, (hw.2.1 w).2⟩, fun w => ⟨fun u => (hw.2.2 w).1 ⟨u.1.1, u.2⟩, (hw.2.2 w).2⟩⟩⟩
set_option maxHeartbeats 4000000 in
set_option maxRecDepth 100000 in
theorem c_X11_wasMended {l : Launch} {g : GP} (hG : GH g) {kd : Int → Nat} {ln : Int → Int} {mem : Int → Int → Int} {sz : Nat} (hK : HK kd ln) (hR : HR mem) (p n q : Int) (tg : Int → Int) (hI : INV kd ln mem sz tg) (h_p : InI p) (h_n : InI n) (h_q : InI q) : MT l g yX11_wasMended cX11_wasMended 6 (some .boolean) 3 0 0 [(2, 3), (0, p), (0, n), (0, q)] kd ln mem sz (pB (∃ s : Int, 0 ≤ s ∧ s ≤ mem 35 45 - 1 ∧ mem 63 s = p ∧ mem 64 s = n ∧ mem 68 s ≠ -1 ∧ mem 68 s ≤ q) kd ln mem sz) := by
  refine MT_of hG (by decide +kernel) (Nat.le_of_ble_eq_true rfl) (fun z hF hr hn => ?_)
  obtain ⟨⟨q0, q1, q2, q3, q4, q5⟩, u0, u2, u46, u89, usz⟩ := hI.num
  have n30 : 0 ≤ mem 35 45 ∧ mem 35 45 ≤ 60 := ⟨hI.sls.1, hI.sls.2.1⟩
  obtain ⟨e30, k30, r30, b30, c30⟩ := hI.g30.ls
  refine jblk hF [(.iconst 0, 1), (.istore 4, 2)] (by decide +kernel) (pc' := 3) (lo' := [(4, (0, 0)), (0, (2, 3)), (1, (0, p)), (2, (0, n)), (3, (0, q))]) (st' := []) rfl ?_
  have L_2 : ∀ (fu_3 : Nat) (i : Int), (0 ≤ i ∧ i ≤ mem 35 45) → (∀ s : Int, 0 ≤ s → s < i → ¬ (mem 63 s = p ∧ mem 64 s = n ∧ mem 68 s ≠ -1 ∧ mem 68 s ≤ q)) →  (mem 35 45 - i).toNat < fu_3 → J z g 6 0 0 (QM z g 0 0 (pB (∃ s : Int, 0 ≤ s ∧ s ≤ mem 35 45 - 1 ∧ mem 63 s = p ∧ mem 64 s = n ∧ mem 68 s ≠ -1 ∧ mem 68 s ≤ q) kd ln mem sz)) 3 [(0, (2, 3)), (1, (0, p)), (2, (0, n)), (3, (0, q)), (4, (0, i))] [] kd ln mem sz := by
    intro fu_3
    induction fu_3 with
    | zero => intro i _ _ hm; omega
    | succ fu_3 ih_1 =>
      intro i hi hno hm
      refine jblk hF [(.iload 4, 2), (.aload_n 0, 1)] (by decide +kernel) (pc' := 6) (lo' := [(0, (2, 3)), (1, (0, p)), (2, (0, n)), (3, (0, q)), (4, (0, i))]) (st' := [(2, 3), (0, i)]) rfl ?_
      refine jget hF 12 15 2 15 rfl (by decide) (by decide) rfl wd_341 (by decide +kernel) (by exact hK.k3) ?_
      rw [HR.r3_15 hR]
      refine jcallV hF (c_Jx4a65c_size_8abf5 hG 30 (by first | assumption | omega)) MW_Jx4a65c_size_8abf5 0 (by decide) (by exact hK.k30) wd_410 wd_411 wd_412 (by decide +kernel) [(0, i)] rfl rfl (by decide) (Nat.le_of_ble_eq_true rfl) (by decide) (kV ?_)
      rw [e30]
      refine jicmp_ge hF (off := 52) 64 (by decide +kernel) (by decide) (by omega) (by omega) (fun h_4 => ?_) (fun h_4 => ?_)
      · refine jblk hF [(.iconst 0, 1)] (by decide +kernel) (pc' := 65) (lo' := [(0, (2, 3)), (1, (0, p)), (2, (0, n)), (3, (0, q)), (4, (0, i))]) (st' := [(0, 0)]) rfl ?_
        refine jzret hF hr (by omega) (by decide +kernel) ?_
        exact lB0 (by (rintro ⟨s, w1, w2, w3⟩; exact hno s w1 (by omega) w3))
      · refine jblk hF [(.aload_n 0, 1)] (by decide +kernel) (pc' := 16) (lo' := [(0, (2, 3)), (1, (0, p)), (2, (0, n)), (3, (0, q)), (4, (0, i))]) (st' := [(2, 3)]) rfl ?_
        refine jget hF 12 15 2 15 rfl (by decide) (by decide) rfl wd_341 (by decide +kernel) (by exact hK.k3) ?_
        rw [HR.r3_15 hR]
        refine jblk hF [(.iload 4, 2)] (by decide +kernel) (pc' := 21) (lo' := [(0, (2, 3)), (1, (0, p)), (2, (0, n)), (3, (0, q)), (4, (0, i))]) (st' := [(0, i), (2, 30)]) rfl ?_
        refine jcallV hF (c_Jx4a65c_get_915e3 hG 30 i (by first | assumption | omega) (by first | assumption | omega) (by omega)) MW_Jx4a65c_get_915e3 0 (by decide) (by exact hK.k30) wd_498 wd_499 wd_500 (by decide +kernel) [] rfl rfl (by decide) (Nat.le_of_ble_eq_true rfl) (by decide) (kV ?_)
        obtain ⟨sl, hsl⟩ : ∃ y : Int, y = mem (mem 30 1) i := ⟨_, rfl⟩
        have hob := hI.slp (s := i) (by omega) (by omega)
        rw [← hsl]
        rw [← hsl] at hob
        have hok := hob.1
        obtain ⟨g1, g2, g3, g4, g5, g6⟩ := hob.2.1
        have hsf := hob.2.2
        have hwp := (hI.pgs).2.2 (mem 63 i) (by omega) (by omega)
        refine jcast hF 9 (by decide) wd_895 (by decide +kernel) (by first | exact hok.1 | assumption | omega) ?_
        refine jblk hF [(.astore 5, 2), (.aload 5, 2)] (by decide +kernel) (pc' := 31) (lo' := [(5, (2, sl)), (0, (2, 3)), (1, (0, p)), (2, (0, n)), (3, (0, q)), (4, (0, i))]) (st' := [(2, sl)]) rfl ?_
        refine jget hF 9 0 0 0 rfl (by decide) (by decide) rfl wd_902 (by decide +kernel) (by first | exact hok.1 | assumption | omega) ?_
        refine jblk hF [(.iload_n 1, 1)] (by decide +kernel) (pc' := 35) (lo' := [(5, (2, sl)), (0, (2, 3)), (1, (0, p)), (2, (0, n)), (3, (0, q)), (4, (0, i))]) (st' := [(0, p), (0, mem sl 0)]) rfl ?_
        refine jicmp_ne hF (off := 23) 58 (by decide +kernel) (by decide) (by omega) (by omega) (fun h_5 => ?_) (fun h_5 => ?_)
        · refine jblk hF [(.iinc 4 1, 3)] (by decide +kernel) (pc' := 61) (lo' := [(4, (0, i + 1)), (5, (2, sl)), (0, (2, 3)), (1, (0, p)), (2, (0, n)), (3, (0, q))]) (st' := []) rfl ?_
          refine jgoto hF (off := (-58)) 3 (by decide +kernel) (by decide) ?_
          refine jsub [2, 3, 4, 5, 0] rfl ?_
          refine ih_1 (i + 1) ?_ ?_ ?_
          · omega
          · (intro s w1 w2; by_cases e : s = i; (subst e; omega); exact hno s w1 (by omega))
          · omega
        · refine jblk hF [(.aload 5, 2)] (by decide +kernel) (pc' := 40) (lo' := [(5, (2, sl)), (0, (2, 3)), (1, (0, p)), (2, (0, n)), (3, (0, q)), (4, (0, i))]) (st' := [(2, sl)]) rfl ?_
          refine jget hF 9 1 0 1 rfl (by decide) (by decide) rfl wd_905 (by decide +kernel) (by first | exact hok.1 | assumption | omega) ?_
          refine jblk hF [(.iload_n 2, 1)] (by decide +kernel) (pc' := 44) (lo' := [(5, (2, sl)), (0, (2, 3)), (1, (0, p)), (2, (0, n)), (3, (0, q)), (4, (0, i))]) (st' := [(0, n), (0, mem sl 1)]) rfl ?_
          refine jicmp_ne hF (off := 14) 58 (by decide +kernel) (by decide) (by omega) (by omega) (fun h_6 => ?_) (fun h_6 => ?_)
          · refine jblk hF [(.iinc 4 1, 3)] (by decide +kernel) (pc' := 61) (lo' := [(4, (0, i + 1)), (5, (2, sl)), (0, (2, 3)), (1, (0, p)), (2, (0, n)), (3, (0, q))]) (st' := []) rfl ?_
            refine jgoto hF (off := (-58)) 3 (by decide +kernel) (by decide) ?_
            refine jsub [2, 3, 4, 5, 0] rfl ?_
            refine ih_1 (i + 1) ?_ ?_ ?_
            · omega
            · (intro s w1 w2; by_cases e : s = i; (subst e; omega); exact hno s w1 (by omega))
            · omega
          · refine jblk hF [(.aload 5, 2), (.iload_n 3, 1)] (by decide +kernel) (pc' := 50) (lo' := [(5, (2, sl)), (0, (2, 3)), (1, (0, p)), (2, (0, n)), (3, (0, q)), (4, (0, i))]) (st' := [(0, q), (2, sl)]) rfl ?_
            refine jcallV hF (c_X8_isMendedBy hG sl q (by first | assumption | omega) (by omega) (by omega)) MW_X8_isMendedBy 9 (by decide) (by first | exact hok.1 | assumption | omega) wd_960 wd_949 wd_950 (by decide +kernel) [] rfl rfl (by decide) (Nat.le_of_ble_eq_true rfl) (by decide) (kB (fun h_7 => ?_) (fun h_7 => ?_))
            · refine jif_eq hF (off := 5) 58 (by decide +kernel) (by decide) (by decide) (fun h => absurd h (by decide)) (fun _ => ?_)
              refine jblk hF [(.iconst 1, 1)] (by decide +kernel) (pc' := 57) (lo' := [(5, (2, sl)), (0, (2, 3)), (1, (0, p)), (2, (0, n)), (3, (0, q)), (4, (0, i))]) (st' := [(0, 1)]) rfl ?_
              refine jzret hF hr (by omega) (by decide +kernel) ?_
              exact lB1 (by exact ⟨i, by omega, by omega, by omega, by omega, by omega, by omega⟩)
            · refine jif_eq hF (off := 5) 58 (by decide +kernel) (by decide) (by decide) (fun _ => ?_) (fun h => absurd h (by decide))
              refine jblk hF [(.iinc 4 1, 3)] (by decide +kernel) (pc' := 61) (lo' := [(4, (0, i + 1)), (5, (2, sl)), (0, (2, 3)), (1, (0, p)), (2, (0, n)), (3, (0, q))]) (st' := []) rfl ?_
              refine jgoto hF (off := (-58)) 3 (by decide +kernel) (by decide) ?_
              refine jsub [2, 3, 4, 5, 0] rfl ?_
              refine ih_1 (i + 1) ?_ ?_ ?_
              · omega
              · (intro s w1 w2; by_cases e : s = i; (subst e; omega); exact hno s w1 (by omega))
              · omega
  refine jsub [1, 2, 3, 4, 0] rfl ?_
  refine L_2 _ 0 ?_ ?_ (Nat.lt_succ_self _)
  · omega
  · (intro s w1 w2; omega)
set_option maxHeartbeats 4000000 in
set_option maxRecDepth 100000 in
theorem c_X11_slipsMended {l : Launch} {g : GP} (hG : GH g) {kd : Int → Nat} {ln : Int → Int} {mem : Int → Int → Int} {sz : Nat} (hK : HK kd ln) (hR : HR mem) (tg : Int → Int) (hI : INV kd ln mem sz tg) : MT l g yX11_slipsMended cX11_slipsMended 3 (some .int) 3 0 0 [(2, 3)] kd ln mem sz (pV (0, meN mem (mem 35 45).toNat) kd ln mem sz) := by
  refine MT_of hG (by decide +kernel) (Nat.le_of_ble_eq_true rfl) (fun z hF hr hn => ?_)
  obtain ⟨⟨q0, q1, q2, q3, q4, q5⟩, u0, u2, u46, u89, usz⟩ := hI.num
  have n30 : 0 ≤ mem 35 45 ∧ mem 35 45 ≤ 60 := ⟨hI.sls.1, hI.sls.2.1⟩
  obtain ⟨e30, k30, r30, b30, c30⟩ := hI.g30.ls
  refine jblk hF [(.iconst 0, 1), (.istore_n 1, 1), (.iconst 0, 1), (.istore_n 2, 1)] (by decide +kernel) (pc' := 4) (lo' := [(2, (0, 0)), (1, (0, 0)), (0, (2, 3))]) (st' := []) rfl ?_
  have L_2 : ∀ (fu_3 : Nat) (c : Int) (i : Int), (0 ≤ i ∧ i ≤ mem 35 45) → (c = meN mem i.toNat) →  (mem 35 45 - i).toNat < fu_3 → J z g 3 0 0 (QM z g 0 0 (pV (0, meN mem (mem 35 45).toNat) kd ln mem sz)) 4 [(0, (2, 3)), (1, (0, c)), (2, (0, i))] [] kd ln mem sz := by
    intro fu_3
    induction fu_3 with
    | zero => intro c i _ _ hm; omega
    | succ fu_3 ih_1 =>
      intro c i hi hc hm
      refine jblk hF [(.iload_n 2, 1), (.aload_n 0, 1)] (by decide +kernel) (pc' := 6) (lo' := [(0, (2, 3)), (1, (0, c)), (2, (0, i))]) (st' := [(2, 3), (0, i)]) rfl ?_
      refine jget hF 12 15 2 15 rfl (by decide) (by decide) rfl wd_341 (by decide +kernel) (by exact hK.k3) ?_
      rw [HR.r3_15 hR]
      refine jcallV hF (c_Jx4a65c_size_8abf5 hG 30 (by first | assumption | omega)) MW_Jx4a65c_size_8abf5 0 (by decide) (by exact hK.k30) wd_410 wd_411 wd_412 (by decide +kernel) [(0, i)] rfl rfl (by decide) (Nat.le_of_ble_eq_true rfl) (by decide) (kV ?_)
      rw [e30]
      refine jicmp_ge hF (off := 30) 42 (by decide +kernel) (by decide) (by omega) (by omega) (fun h_4 => ?_) (fun h_4 => ?_)
      · refine jblk hF [(.iload_n 1, 1)] (by decide +kernel) (pc' := 43) (lo' := [(0, (2, 3)), (1, (0, c)), (2, (0, i))]) (st' := [(0, c)]) rfl ?_
        refine jiret hF hr (by decide +kernel) ?_
        exact lV (by (rw [hc, show i = mem 35 45 by omega]))
      · refine jblk hF [(.aload_n 0, 1)] (by decide +kernel) (pc' := 16) (lo' := [(0, (2, 3)), (1, (0, c)), (2, (0, i))]) (st' := [(2, 3)]) rfl ?_
        refine jget hF 12 15 2 15 rfl (by decide) (by decide) rfl wd_341 (by decide +kernel) (by exact hK.k3) ?_
        rw [HR.r3_15 hR]
        refine jblk hF [(.iload_n 2, 1)] (by decide +kernel) (pc' := 20) (lo' := [(0, (2, 3)), (1, (0, c)), (2, (0, i))]) (st' := [(0, i), (2, 30)]) rfl ?_
        refine jcallV hF (c_Jx4a65c_get_915e3 hG 30 i (by first | assumption | omega) (by first | assumption | omega) (by omega)) MW_Jx4a65c_get_915e3 0 (by decide) (by exact hK.k30) wd_498 wd_499 wd_500 (by decide +kernel) [] rfl rfl (by decide) (Nat.le_of_ble_eq_true rfl) (by decide) (kV ?_)
        obtain ⟨sl, hsl⟩ : ∃ y : Int, y = mem (mem 30 1) i := ⟨_, rfl⟩
        have hob := hI.slp (s := i) (by omega) (by omega)
        rw [← hsl]
        rw [← hsl] at hob
        have hok := hob.1
        obtain ⟨g1, g2, g3, g4, g5, g6⟩ := hob.2.1
        have hsf := hob.2.2
        refine jcast hF 9 (by decide) wd_895 (by decide +kernel) (by first | exact hok.1 | assumption | omega) ?_
        refine jget hF 9 5 0 5 rfl (by decide) (by decide) rfl wd_914 (by decide +kernel) (by first | exact hok.1 | assumption | omega) ?_
        refine jblk hF [(.iconst (-1), 1)] (by decide +kernel) (pc' := 30) (lo' := [(0, (2, 3)), (1, (0, c)), (2, (0, i))]) (st' := [(0, (-1)), (0, mem sl 5)]) rfl ?_
        refine jicmp_eq hF (off := 6) 36 (by decide +kernel) (by decide) (by omega) (by decide) (fun h_5 => ?_) (fun h_5 => ?_)
        · refine jblk hF [(.iinc 2 1, 3)] (by decide +kernel) (pc' := 39) (lo' := [(2, (0, i + 1)), (0, (2, 3)), (1, (0, c))]) (st' := []) rfl ?_
          refine jgoto hF (off := (-35)) 4 (by decide +kernel) (by decide) ?_
          refine jsub [1, 2, 0] rfl ?_
          refine ih_1 c (i + 1) ?_ ?_ ?_
          · omega
          · (rw [meN_s (by omega)]; first | (rw [if_pos (by omega)]; omega) | (rw [if_neg (by omega)]; omega))
          · omega
        · refine jblk hF [(.iinc 1 1, 3), (.iinc 2 1, 3)] (by decide +kernel) (pc' := 39) (lo' := [(2, (0, i + 1)), (1, (0, c + 1)), (0, (2, 3))]) (st' := []) rfl ?_
          refine jgoto hF (off := (-35)) 4 (by decide +kernel) (by decide) ?_
          refine jsub [2, 1, 0] rfl ?_
          refine ih_1 (c + 1) (i + 1) ?_ ?_ ?_
          · omega
          · (rw [meN_s (by omega)]; first | (rw [if_pos (by omega)]; omega) | (rw [if_neg (by omega)]; omega))
          · omega
  refine jsub [2, 1, 0] rfl ?_
  refine L_2 _ 0 0 ?_ ?_ (Nat.lt_succ_self _)
  · omega
  · rfl
set_option maxHeartbeats 4000000 in
set_option maxRecDepth 100000 in
theorem c_X11_pagesSet {l : Launch} {g : GP} (hG : GH g) {kd : Int → Nat} {ln : Int → Int} {mem : Int → Int → Int} {sz : Nat} (hK : HK kd ln) (hR : HR mem) (tg : Int → Int) (hI : INV kd ln mem sz tg) : MT l g yX11_pagesSet cX11_pagesSet 3 (some .int) 3 0 0 [(2, 3)] kd ln mem sz (pV (0, seN mem (mem 35 33).toNat) kd ln mem sz) := by
  refine MT_of hG (by decide +kernel) (Nat.le_of_ble_eq_true rfl) (fun z hF hr hn => ?_)
  obtain ⟨⟨q0, q1, q2, q3, q4, q5⟩, u0, u2, u46, u89, usz⟩ := hI.num
  have n29 : 0 ≤ mem 35 33 ∧ mem 35 33 ≤ 12 := ⟨hI.pgs.1, hI.pgs.2.1⟩
  obtain ⟨e29, k29, r29, b29, c29⟩ := hI.g29.ls
  refine jblk hF [(.iconst 0, 1), (.istore_n 1, 1), (.iconst 0, 1), (.istore_n 2, 1)] (by decide +kernel) (pc' := 4) (lo' := [(2, (0, 0)), (1, (0, 0)), (0, (2, 3))]) (st' := []) rfl ?_
  have L_2 : ∀ (fu_3 : Nat) (c : Int) (i : Int), (0 ≤ i ∧ i ≤ mem 35 33) → (c = seN mem i.toNat) →  (mem 35 33 - i).toNat < fu_3 → J z g 3 0 0 (QM z g 0 0 (pV (0, seN mem (mem 35 33).toNat) kd ln mem sz)) 4 [(0, (2, 3)), (1, (0, c)), (2, (0, i))] [] kd ln mem sz := by
    intro fu_3
    induction fu_3 with
    | zero => intro c i _ _ hm; omega
    | succ fu_3 ih_1 =>
      intro c i hi hc hm
      refine jblk hF [(.iload_n 2, 1), (.aload_n 0, 1)] (by decide +kernel) (pc' := 6) (lo' := [(0, (2, 3)), (1, (0, c)), (2, (0, i))]) (st' := [(2, 3), (0, i)]) rfl ?_
      refine jget hF 12 14 2 14 rfl (by decide) (by decide) rfl wd_340 (by decide +kernel) (by exact hK.k3) ?_
      rw [HR.r3_14 hR]
      refine jcallV hF (c_Jx4a65c_size_8abf5 hG 29 (by first | assumption | omega)) MW_Jx4a65c_size_8abf5 0 (by decide) (by exact hK.k29) wd_410 wd_411 wd_412 (by decide +kernel) [(0, i)] rfl rfl (by decide) (Nat.le_of_ble_eq_true rfl) (by decide) (kV ?_)
      rw [e29]
      refine jicmp_ge hF (off := 29) 41 (by decide +kernel) (by decide) (by omega) (by omega) (fun h_4 => ?_) (fun h_4 => ?_)
      · refine jblk hF [(.iload_n 1, 1)] (by decide +kernel) (pc' := 42) (lo' := [(0, (2, 3)), (1, (0, c)), (2, (0, i))]) (st' := [(0, c)]) rfl ?_
        refine jiret hF hr (by decide +kernel) ?_
        exact lV (by (rw [hc, show i = mem 35 33 by omega]))
      · refine jblk hF [(.aload_n 0, 1)] (by decide +kernel) (pc' := 16) (lo' := [(0, (2, 3)), (1, (0, c)), (2, (0, i))]) (st' := [(2, 3)]) rfl ?_
        refine jget hF 12 14 2 14 rfl (by decide) (by decide) rfl wd_340 (by decide +kernel) (by exact hK.k3) ?_
        rw [HR.r3_14 hR]
        refine jblk hF [(.iload_n 2, 1)] (by decide +kernel) (pc' := 20) (lo' := [(0, (2, 3)), (1, (0, c)), (2, (0, i))]) (st' := [(0, i), (2, 29)]) rfl ?_
        refine jcallV hF (c_Jx4a65c_get_915e3 hG 29 i (by first | assumption | omega) (by first | assumption | omega) (by omega)) MW_Jx4a65c_get_915e3 0 (by decide) (by exact hK.k29) wd_498 wd_499 wd_500 (by decide +kernel) [] rfl rfl (by decide) (Nat.le_of_ble_eq_true rfl) (by decide) (kV ?_)
        obtain ⟨sl, hsl⟩ : ∃ y : Int, y = mem (mem 29 1) i := ⟨_, rfl⟩
        have hob := hI.pag (p := i) (by omega) (by omega)
        rw [← hsl]
        rw [← hsl] at hob
        have hok := hob.at
        have hst : 0 ≤ mem sl 17 ↔ mem 82 i = 1 := hob.set
        have hi01 := hI.ist i (by omega) (by omega)
        refine jcast hF 4 (by decide) wd_688 (by decide +kernel) (by first | exact hok.1 | assumption | omega) ?_
        refine jcallV hF (c_X3_isSet hG sl (by first | assumption | omega) (by omega)) MW_X3_isSet 4 (by decide) (by first | exact hok.1 | assumption | omega) wd_1139 wd_1140 wd_1141 (by decide +kernel) [] rfl rfl (by decide) (Nat.le_of_ble_eq_true rfl) (by decide) (kB (fun h_5 => ?_) (fun h_5 => ?_))
        · refine jif_eq hF (off := 6) 35 (by decide +kernel) (by decide) (by decide) (fun h => absurd h (by decide)) (fun _ => ?_)
          refine jblk hF [(.iinc 1 1, 3), (.iinc 2 1, 3)] (by decide +kernel) (pc' := 38) (lo' := [(2, (0, i + 1)), (1, (0, c + 1)), (0, (2, 3))]) (st' := []) rfl ?_
          refine jgoto hF (off := (-34)) 4 (by decide +kernel) (by decide) ?_
          refine jsub [2, 1, 0] rfl ?_
          refine ih_1 (c + 1) (i + 1) ?_ ?_ ?_
          · omega
          · (rw [seN_s (by omega)]; first | (rw [if_pos (by omega)]; omega) | (rw [if_neg (by omega)]; omega))
          · omega
        · refine jif_eq hF (off := 6) 35 (by decide +kernel) (by decide) (by decide) (fun _ => ?_) (fun h => absurd h (by decide))
          refine jblk hF [(.iinc 2 1, 3)] (by decide +kernel) (pc' := 38) (lo' := [(2, (0, i + 1)), (0, (2, 3)), (1, (0, c))]) (st' := []) rfl ?_
          refine jgoto hF (off := (-34)) 4 (by decide +kernel) (by decide) ?_
          refine jsub [1, 2, 0] rfl ?_
          refine ih_1 c (i + 1) ?_ ?_ ?_
          · omega
          · (rw [seN_s (by omega)]; first | (rw [if_pos (by omega)]; omega) | (rw [if_neg (by omega)]; omega))
          · omega
  refine jsub [2, 1, 0] rfl ?_
  refine L_2 _ 0 0 ?_ ?_ (Nat.lt_succ_self _)
  · omega
  · rfl
set_option maxHeartbeats 4000000 in
set_option maxRecDepth 100000 in
theorem c_X11_count {l : Launch} {g : GP} (hG : GH g) {kd : Int → Nat} {ln : Int → Int} {mem : Int → Int → Int} {sz : Nat} (hK : HK kd ln) (hR : HR mem) (w : Int) (tg : Int → Int) (hI : INV kd ln mem sz tg) (h_w : InI w) : MT l g yX11_count cX11_count 2 (some .int) 4 0 0 [(2, 3), (0, w)] kd ln mem sz (pV (0, cntV mem w) kd ln mem sz) := by
  refine MT_of hG (by decide +kernel) (Nat.le_of_ble_eq_true rfl) (fun z hF hr hn => ?_)
  obtain ⟨⟨q0, q1, q2, q3, q4, q5⟩, u0, u2, u46, u89, usz⟩ := hI.num
  have n27 : 0 ≤ mem 35 6 ∧ mem 35 6 ≤ 10 := ⟨hI.fns.1, hI.fns.2.1⟩
  have n28 : 0 ≤ mem 35 16 ∧ mem 35 16 ≤ 12 := ⟨hI.pls.1, hI.pls.2⟩
  have n29 : 0 ≤ mem 35 33 ∧ mem 35 33 ≤ 12 := ⟨hI.pgs.1, hI.pgs.2.1⟩
  have n30 : 0 ≤ mem 35 45 ∧ mem 35 45 ≤ 60 := ⟨hI.sls.1, hI.sls.2.1⟩
  have n31 : 0 ≤ mem 35 79 ∧ mem 35 79 ≤ 8 := ⟨hI.cps.1, hI.cps.2.1⟩
  have n32 : 0 ≤ mem 35 84 ∧ mem 35 84 ≤ 8 := ⟨hI.ots.1, hI.ots.2.1⟩
  have n33 : 0 ≤ mem 35 80 ∧ mem 35 80 ≤ 40 := ⟨hI.ers.1, hI.ers.2.1⟩
  have n34 : 0 ≤ mem 35 88 ∧ mem 35 88 ≤ 8 := ⟨hI.shs.1, hI.shs.2.1⟩
  obtain ⟨e27, k27, r27, b27, c27⟩ := hI.g27.ls
  obtain ⟨e28, k28, r28, b28, c28⟩ := hI.g28.ls
  obtain ⟨e29, k29, r29, b29, c29⟩ := hI.g29.ls
  obtain ⟨e30, k30, r30, b30, c30⟩ := hI.g30.ls
  obtain ⟨e31, k31, r31, b31, c31⟩ := hI.g31.ls
  obtain ⟨e32, k32, r32, b32, c32⟩ := hI.g32.ls
  obtain ⟨e33, k33, r33, b33, c33⟩ := hI.g33.ls
  obtain ⟨e34, k34, r34, b34, c34⟩ := hI.g34.ls
  have e5 : mem 5 1 = mem 35 11 := hI.tap.1
  refine jblk hF [(.iload_n 1, 1)] (by decide +kernel) (pc' := 1) (lo' := [(0, (2, 3)), (1, (0, w))]) (st' := [(0, w)]) rfl ?_
  by_cases h_1 : w = 0
  · refine jtabIn hF (dflt := 159) (lo' := 0) (hi := 12) (offs := #[67, 72, 80, 88, 96, 104, 109, 114, 119, 127, 135, 143, 151]) (len := 67) 0 67 68 (by decide +kernel) h_1 (by decide) (by decide) (by decide) rfl (by decide) ?_
    refine jblk hF [(.aload_n 0, 1)] (by decide +kernel) (pc' := 69) (lo' := [(0, (2, 3)), (1, (0, w))]) (st' := [(2, 3)]) rfl ?_
    refine jget hF 12 0 0 0 rfl (by decide) (by decide) rfl wd_326 (by decide +kernel) (by exact hK.k3) ?_
    refine jiret hF hr (by decide +kernel) ?_
    exact lV (by first | (unfold cntV; (repeat rw [if_neg (by omega)]); done) | (unfold cntV; (repeat rw [if_neg (by omega)]); first | omega | (rw [if_pos (by omega)]; omega) | rw [if_pos (by omega)]))
  by_cases h_2 : w = 1
  · refine jtabIn hF (dflt := 159) (lo' := 0) (hi := 12) (offs := #[67, 72, 80, 88, 96, 104, 109, 114, 119, 127, 135, 143, 151]) (len := 67) 1 72 73 (by decide +kernel) h_2 (by decide) (by decide) (by decide) rfl (by decide) ?_
    refine jblk hF [(.aload_n 0, 1)] (by decide +kernel) (pc' := 74) (lo' := [(0, (2, 3)), (1, (0, w))]) (st' := [(2, 3)]) rfl ?_
    refine jget hF 12 12 2 12 rfl (by decide) (by decide) rfl wd_338 (by decide +kernel) (by exact hK.k3) ?_
    rw [HR.r3_12 hR]
    refine jcallV hF (c_Jx4a65c_size_8abf5 hG 27 (by first | assumption | omega)) MW_Jx4a65c_size_8abf5 0 (by decide) (by exact hK.k27) wd_410 wd_411 wd_412 (by decide +kernel) [] rfl rfl (by decide) (Nat.le_of_ble_eq_true rfl) (by decide) (kV ?_)
    rw [e27]
    refine jiret hF hr (by decide +kernel) ?_
    exact lV (by first | (unfold cntV; (repeat rw [if_neg (by omega)]); done) | (unfold cntV; (repeat rw [if_neg (by omega)]); first | omega | (rw [if_pos (by omega)]; omega) | rw [if_pos (by omega)]))
  by_cases h_3 : w = 2
  · refine jtabIn hF (dflt := 159) (lo' := 0) (hi := 12) (offs := #[67, 72, 80, 88, 96, 104, 109, 114, 119, 127, 135, 143, 151]) (len := 67) 2 80 81 (by decide +kernel) h_3 (by decide) (by decide) (by decide) rfl (by decide) ?_
    refine jblk hF [(.aload_n 0, 1)] (by decide +kernel) (pc' := 82) (lo' := [(0, (2, 3)), (1, (0, w))]) (st' := [(2, 3)]) rfl ?_
    refine jget hF 12 13 2 13 rfl (by decide) (by decide) rfl wd_339 (by decide +kernel) (by exact hK.k3) ?_
    rw [HR.r3_13 hR]
    refine jcallV hF (c_Jx4a65c_size_8abf5 hG 28 (by first | assumption | omega)) MW_Jx4a65c_size_8abf5 0 (by decide) (by exact hK.k28) wd_410 wd_411 wd_412 (by decide +kernel) [] rfl rfl (by decide) (Nat.le_of_ble_eq_true rfl) (by decide) (kV ?_)
    rw [e28]
    refine jiret hF hr (by decide +kernel) ?_
    exact lV (by first | (unfold cntV; (repeat rw [if_neg (by omega)]); done) | (unfold cntV; (repeat rw [if_neg (by omega)]); first | omega | (rw [if_pos (by omega)]; omega) | rw [if_pos (by omega)]))
  by_cases h_4 : w = 3
  · refine jtabIn hF (dflt := 159) (lo' := 0) (hi := 12) (offs := #[67, 72, 80, 88, 96, 104, 109, 114, 119, 127, 135, 143, 151]) (len := 67) 3 88 89 (by decide +kernel) h_4 (by decide) (by decide) (by decide) rfl (by decide) ?_
    refine jblk hF [(.aload_n 0, 1)] (by decide +kernel) (pc' := 90) (lo' := [(0, (2, 3)), (1, (0, w))]) (st' := [(2, 3)]) rfl ?_
    refine jget hF 12 14 2 14 rfl (by decide) (by decide) rfl wd_340 (by decide +kernel) (by exact hK.k3) ?_
    rw [HR.r3_14 hR]
    refine jcallV hF (c_Jx4a65c_size_8abf5 hG 29 (by first | assumption | omega)) MW_Jx4a65c_size_8abf5 0 (by decide) (by exact hK.k29) wd_410 wd_411 wd_412 (by decide +kernel) [] rfl rfl (by decide) (Nat.le_of_ble_eq_true rfl) (by decide) (kV ?_)
    rw [e29]
    refine jiret hF hr (by decide +kernel) ?_
    exact lV (by first | (unfold cntV; (repeat rw [if_neg (by omega)]); done) | (unfold cntV; (repeat rw [if_neg (by omega)]); first | omega | (rw [if_pos (by omega)]; omega) | rw [if_pos (by omega)]))
  by_cases h_5 : w = 4
  · refine jtabIn hF (dflt := 159) (lo' := 0) (hi := 12) (offs := #[67, 72, 80, 88, 96, 104, 109, 114, 119, 127, 135, 143, 151]) (len := 67) 4 96 97 (by decide +kernel) h_5 (by decide) (by decide) (by decide) rfl (by decide) ?_
    refine jblk hF [(.aload_n 0, 1)] (by decide +kernel) (pc' := 98) (lo' := [(0, (2, 3)), (1, (0, w))]) (st' := [(2, 3)]) rfl ?_
    refine jget hF 12 15 2 15 rfl (by decide) (by decide) rfl wd_341 (by decide +kernel) (by exact hK.k3) ?_
    rw [HR.r3_15 hR]
    refine jcallV hF (c_Jx4a65c_size_8abf5 hG 30 (by first | assumption | omega)) MW_Jx4a65c_size_8abf5 0 (by decide) (by exact hK.k30) wd_410 wd_411 wd_412 (by decide +kernel) [] rfl rfl (by decide) (Nat.le_of_ble_eq_true rfl) (by decide) (kV ?_)
    rw [e30]
    refine jiret hF hr (by decide +kernel) ?_
    exact lV (by first | (unfold cntV; (repeat rw [if_neg (by omega)]); done) | (unfold cntV; (repeat rw [if_neg (by omega)]); first | omega | (rw [if_pos (by omega)]; omega) | rw [if_pos (by omega)]))
  by_cases h_6 : w = 5
  · refine jtabIn hF (dflt := 159) (lo' := 0) (hi := 12) (offs := #[67, 72, 80, 88, 96, 104, 109, 114, 119, 127, 135, 143, 151]) (len := 67) 5 104 105 (by decide +kernel) h_6 (by decide) (by decide) (by decide) rfl (by decide) ?_
    refine jblk hF [(.aload_n 0, 1)] (by decide +kernel) (pc' := 106) (lo' := [(0, (2, 3)), (1, (0, w))]) (st' := [(2, 3)]) rfl ?_
    refine jcallV hF (c_X11_slipsMended hG hK hR (by exact tg) (by assumption)) MW_X11_slipsMended 12 (by decide) (by exact hK.k3) wd_1325 wd_1327 wd_p45 (by decide +kernel) [] rfl rfl (by decide) (Nat.le_of_ble_eq_true rfl) (by decide) (kV ?_)
    refine jiret hF hr (by decide +kernel) ?_
    exact lV (by first | (unfold cntV; (repeat rw [if_neg (by omega)]); done) | (unfold cntV; (repeat rw [if_neg (by omega)]); first | omega | (rw [if_pos (by omega)]; omega) | rw [if_pos (by omega)]))
  by_cases h_7 : w = 6
  · refine jtabIn hF (dflt := 159) (lo' := 0) (hi := 12) (offs := #[67, 72, 80, 88, 96, 104, 109, 114, 119, 127, 135, 143, 151]) (len := 67) 6 109 110 (by decide +kernel) h_7 (by decide) (by decide) (by decide) rfl (by decide) ?_
    refine jblk hF [(.aload_n 0, 1)] (by decide +kernel) (pc' := 111) (lo' := [(0, (2, 3)), (1, (0, w))]) (st' := [(2, 3)]) rfl ?_
    refine jcallV hF (c_X11_pagesSet hG hK hR (by exact tg) (by assumption)) MW_X11_pagesSet 12 (by decide) (by exact hK.k3) wd_1329 wd_1331 wd_p46 (by decide +kernel) [] rfl rfl (by decide) (Nat.le_of_ble_eq_true rfl) (by decide) (kV ?_)
    refine jiret hF hr (by decide +kernel) ?_
    exact lV (by first | (unfold cntV; (repeat rw [if_neg (by omega)]); done) | (unfold cntV; (repeat rw [if_neg (by omega)]); first | omega | (rw [if_pos (by omega)]; omega) | rw [if_pos (by omega)]))
  by_cases h_8 : w = 7
  · refine jtabIn hF (dflt := 159) (lo' := 0) (hi := 12) (offs := #[67, 72, 80, 88, 96, 104, 109, 114, 119, 127, 135, 143, 151]) (len := 67) 7 114 115 (by decide +kernel) h_8 (by decide) (by decide) (by decide) rfl (by decide) ?_
    refine jblk hF [(.aload_n 0, 1)] (by decide +kernel) (pc' := 116) (lo' := [(0, (2, 3)), (1, (0, w))]) (st' := [(2, 3)]) rfl ?_
    refine jget hF 12 4 0 4 rfl (by decide) (by decide) rfl wd_330 (by decide +kernel) (by exact hK.k3) ?_
    refine jiret hF hr (by decide +kernel) ?_
    exact lV (by first | (unfold cntV; (repeat rw [if_neg (by omega)]); done) | (unfold cntV; (repeat rw [if_neg (by omega)]); first | omega | (rw [if_pos (by omega)]; omega) | rw [if_pos (by omega)]))
  by_cases h_9 : w = 8
  · refine jtabIn hF (dflt := 159) (lo' := 0) (hi := 12) (offs := #[67, 72, 80, 88, 96, 104, 109, 114, 119, 127, 135, 143, 151]) (len := 67) 8 119 120 (by decide +kernel) h_9 (by decide) (by decide) (by decide) rfl (by decide) ?_
    refine jblk hF [(.aload_n 0, 1)] (by decide +kernel) (pc' := 121) (lo' := [(0, (2, 3)), (1, (0, w))]) (st' := [(2, 3)]) rfl ?_
    refine jget hF 12 16 2 16 rfl (by decide) (by decide) rfl wd_342 (by decide +kernel) (by exact hK.k3) ?_
    rw [HR.r3_16 hR]
    refine jcallV hF (c_Jx4a65c_size_8abf5 hG 31 (by first | assumption | omega)) MW_Jx4a65c_size_8abf5 0 (by decide) (by exact hK.k31) wd_410 wd_411 wd_412 (by decide +kernel) [] rfl rfl (by decide) (Nat.le_of_ble_eq_true rfl) (by decide) (kV ?_)
    rw [e31]
    refine jiret hF hr (by decide +kernel) ?_
    exact lV (by first | (unfold cntV; (repeat rw [if_neg (by omega)]); done) | (unfold cntV; (repeat rw [if_neg (by omega)]); first | omega | (rw [if_pos (by omega)]; omega) | rw [if_pos (by omega)]))
  by_cases h_10 : w = 9
  · refine jtabIn hF (dflt := 159) (lo' := 0) (hi := 12) (offs := #[67, 72, 80, 88, 96, 104, 109, 114, 119, 127, 135, 143, 151]) (len := 67) 9 127 128 (by decide +kernel) h_10 (by decide) (by decide) (by decide) rfl (by decide) ?_
    refine jblk hF [(.aload_n 0, 1)] (by decide +kernel) (pc' := 129) (lo' := [(0, (2, 3)), (1, (0, w))]) (st' := [(2, 3)]) rfl ?_
    refine jget hF 12 18 2 18 rfl (by decide) (by decide) rfl wd_344 (by decide +kernel) (by exact hK.k3) ?_
    rw [HR.r3_18 hR]
    refine jcallV hF (c_Jx4a65c_size_8abf5 hG 33 (by first | assumption | omega)) MW_Jx4a65c_size_8abf5 0 (by decide) (by exact hK.k33) wd_410 wd_411 wd_412 (by decide +kernel) [] rfl rfl (by decide) (Nat.le_of_ble_eq_true rfl) (by decide) (kV ?_)
    rw [e33]
    refine jiret hF hr (by decide +kernel) ?_
    exact lV (by first | (unfold cntV; (repeat rw [if_neg (by omega)]); done) | (unfold cntV; (repeat rw [if_neg (by omega)]); first | omega | (rw [if_pos (by omega)]; omega) | rw [if_pos (by omega)]))
  by_cases h_11 : w = 10
  · refine jtabIn hF (dflt := 159) (lo' := 0) (hi := 12) (offs := #[67, 72, 80, 88, 96, 104, 109, 114, 119, 127, 135, 143, 151]) (len := 67) 10 135 136 (by decide +kernel) h_11 (by decide) (by decide) (by decide) rfl (by decide) ?_
    refine jblk hF [(.aload_n 0, 1)] (by decide +kernel) (pc' := 137) (lo' := [(0, (2, 3)), (1, (0, w))]) (st' := [(2, 3)]) rfl ?_
    refine jget hF 12 17 2 17 rfl (by decide) (by decide) rfl wd_343 (by decide +kernel) (by exact hK.k3) ?_
    rw [HR.r3_17 hR]
    refine jcallV hF (c_Jx4a65c_size_8abf5 hG 32 (by first | assumption | omega)) MW_Jx4a65c_size_8abf5 0 (by decide) (by exact hK.k32) wd_410 wd_411 wd_412 (by decide +kernel) [] rfl rfl (by decide) (Nat.le_of_ble_eq_true rfl) (by decide) (kV ?_)
    rw [e32]
    refine jiret hF hr (by decide +kernel) ?_
    exact lV (by first | (unfold cntV; (repeat rw [if_neg (by omega)]); done) | (unfold cntV; (repeat rw [if_neg (by omega)]); first | omega | (rw [if_pos (by omega)]; omega) | rw [if_pos (by omega)]))
  by_cases h_12 : w = 11
  · refine jtabIn hF (dflt := 159) (lo' := 0) (hi := 12) (offs := #[67, 72, 80, 88, 96, 104, 109, 114, 119, 127, 135, 143, 151]) (len := 67) 11 143 144 (by decide +kernel) h_12 (by decide) (by decide) (by decide) rfl (by decide) ?_
    refine jblk hF [(.aload_n 0, 1)] (by decide +kernel) (pc' := 145) (lo' := [(0, (2, 3)), (1, (0, w))]) (st' := [(2, 3)]) rfl ?_
    refine jget hF 12 19 2 19 rfl (by decide) (by decide) rfl wd_345 (by decide +kernel) (by exact hK.k3) ?_
    rw [HR.r3_19 hR]
    refine jcallV hF (c_Jx4a65c_size_8abf5 hG 34 (by first | assumption | omega)) MW_Jx4a65c_size_8abf5 0 (by decide) (by exact hK.k34) wd_410 wd_411 wd_412 (by decide +kernel) [] rfl rfl (by decide) (Nat.le_of_ble_eq_true rfl) (by decide) (kV ?_)
    rw [e34]
    refine jiret hF hr (by decide +kernel) ?_
    exact lV (by first | (unfold cntV; (repeat rw [if_neg (by omega)]); done) | (unfold cntV; (repeat rw [if_neg (by omega)]); first | omega | (rw [if_pos (by omega)]; omega) | rw [if_pos (by omega)]))
  by_cases h_13 : w = 12
  · refine jtabIn hF (dflt := 159) (lo' := 0) (hi := 12) (offs := #[67, 72, 80, 88, 96, 104, 109, 114, 119, 127, 135, 143, 151]) (len := 67) 12 151 152 (by decide +kernel) h_13 (by decide) (by decide) (by decide) rfl (by decide) ?_
    refine jblk hF [(.aload_n 0, 1)] (by decide +kernel) (pc' := 153) (lo' := [(0, (2, 3)), (1, (0, w))]) (st' := [(2, 3)]) rfl ?_
    refine jget hF 12 7 2 7 rfl (by decide) (by decide) rfl wd_333 (by decide +kernel) (by exact hK.k3) ?_
    rw [HR.r3_7 hR]
    refine jget hF 11 1 0 1 rfl (by decide) (by decide) rfl wd_151 (by decide +kernel) (by exact hK.k5) ?_
    refine jiret hF hr (by decide +kernel) ?_
    exact lV (by first | (unfold cntV; (repeat rw [if_neg (by omega)]); done) | (unfold cntV; (repeat rw [if_neg (by omega)]); first | omega | (rw [if_pos (by omega)]; omega) | rw [if_pos (by omega)]))
  refine jtabOut hF (dflt := 159) (lo' := 0) (hi := 12) (offs := #[67, 72, 80, 88, 96, 104, 109, 114, 119, 127, 135, 143, 151]) (len := 67) 160 (by decide +kernel) (by omega) (by omega) (by decide) ?_
  refine jblk hF [(.iconst (-1), 1)] (by decide +kernel) (pc' := 161) (lo' := [(0, (2, 3)), (1, (0, w))]) (st' := [(0, (-1))]) rfl ?_
  refine jiret hF hr (by decide +kernel) ?_
  exact lV (by first | (unfold cntV; (repeat rw [if_neg (by omega)]); done) | (unfold cntV; (repeat rw [if_neg (by omega)]); first | omega | (rw [if_pos (by omega)]; omega) | rw [if_pos (by omega)]))
end
