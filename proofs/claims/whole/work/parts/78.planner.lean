section
theorem PDC.kap {mem m : Int → Int → Int} (h : PDC mem m) (o e w : Int) : KAP m o e w ↔ KAP mem o e w := by
  have h4 : m 22 4 = mem 22 4 := h 22 4 (by omega) (by omega) (by omega)
  unfold KAP
  rw [h4]
  constructor
  · intro q t q1 q2 q3
    have := q t q1 q2 q3
    have hr := h.rcv o e t
    rw [h4] at hr
    rw [hr] at this
    exact this
  · intro q t q1 q2 q3
    have hr := h.rcv o e t
    rw [h4] at hr
    rw [hr]
    exact q t q1 q2 q3
theorem PDC.rch {mem m k : Int → Int → Int} (h : PDC mem m) {o e : Int} (hr : RCH m k o e) : RCH mem k o e := fun t q1 q2 => by
  have := hr t q1 q2
  rw [h.rcv o e t] at this
  exact this
theorem PDC.rchb {mem m k : Int → Int → Int} (h : PDC mem m) {o e : Int} (hr : RCH mem k o e) : RCH m k o e := fun t q1 q2 => by
  rw [h.rcv o e t]
  exact hr t q1 q2
theorem RCH.cg {mem k k' : Int → Int → Int} {o e : Int} (h : RCH mem k o e) (hk : ∀ j : Int, k' 25 j = k 25 j) : RCH mem k' o e := fun t q1 q2 => by rw [hk t]; exact h t q1 q2
theorem hrV_bd {ph L o e m : Int} (hp : 1 ≤ ph ∧ ph ≤ 100) (hL : 0 ≤ L ∧ L ≤ 40) (ho : 1 ≤ o ∧ o ≤ 4) (he : 0 ≤ e ∧ e ≤ 6) (hm : o + 2 ≤ m) : 0 ≤ hrV ph L o e m ∧ hrV ph L o e m ≤ 10000 ∧ 0 ≤ ph * pvV L o m ∧ ph * pvV L o m ≤ 4000 ∧ 0 ≤ o * (L - pvV L o m) ∧ o * (L - pvV L o m) ≤ 160 ∧ 0 ≤ e * L ∧ e * L ≤ 240 := by
  have hb := pvV_bd hL ho hm
  have h1 := mul_bd (a := ph) (b := pvV L o m) (M := 100) (N := 40) (by omega) (by omega)
  have h2 := mul_bd (a := o) (b := L - pvV L o m) (M := 4) (N := 40) (by omega) (by omega)
  have h3 := mul_bd (a := e) (b := L) (M := 6) (N := 40) (by omega) (by omega)
  unfold hrV
  omega
/-- the best so far is small -/
def BPB (S : BS) : Prop := 0 ≤ S.1 ∧ S.1 ≤ 1000000
set_option maxHeartbeats 4000000 in
set_option maxRecDepth 100000 in
theorem c_X4_findsOne {l : Launch} {g : GP} (hG : GH g) {kd : Int → Nat} {ln : Int → Int} {mem : Int → Int → Int} {sz : Nat} (hK : HK kd ln) (hR : HR mem) (ph : Int) (hTN : TNS g) (hA : 1 ≤ ph ∧ ph ≤ 100 ∧ 0 ≤ mem 22 4 ∧ mem 22 4 ≤ 40 ∧ 0 ≤ mem 22 5 ∧ mem 22 5 ≤ 5 ∧ 0 ≤ mem 22 6 ∧ mem 22 6 ≤ 2) : MT l g yX4_findsOne cX4_findsOne 7 (some .boolean) 5 0 0 [(2, 22), (0, ph)] kd ln mem sz (pMB (fun c mem' => HR mem' ∧ (∃ S : BS, (c ↔ S.1 ≠ 1000000) ∧ FOR mem mem' ph S)) kd ln sz) := by
  refine MT_of hG (by decide +kernel) (Nat.le_of_ble_eq_true rfl) (fun z hF hr hn => ?_)
  have hl25 := hK.l25
  refine jblk hF [(.aload_n 0, 1)] (by decide +kernel) (pc' := 1) (lo' := [(0, (2, 22)), (1, (0, ph))]) (st' := [(2, 22)]) rfl ?_
  refine jldc hF 1000000 (cst_i wd_1298 (by decide)) (by decide +kernel) ?_
  refine jput hF 5 7 0 7 rfl (by decide) (by decide) rfl wd_269 (by decide +kernel) rfl (Or.inl rfl) (by exact hK.k22) (fun h => by cases h) ?_
  refine jblk hF [(.iconst 1, 1), (.istore_n 2, 1)] (by decide +kernel) (pc' := 8) (lo' := [(2, (0, 1)), (0, (2, 22)), (1, (0, ph))]) (st' := []) rfl ?_
  have L_2 : ∀ (fu_3 : Nat) (o : Int) (m1 : Int → Int → Int), (HR m1) → (PDC mem m1) → (BPJ m1 (bpO (KAP mem) (hrV ph (mem 22 4)) (mem 22 5) (o - 1).toNat (1000000, mem 22 8, mem 22 9, mem 22 10))) → (BPB (bpO (KAP mem) (hrV ph (mem 22 4)) (mem 22 5) (o - 1).toNat (1000000, mem 22 8, mem 22 9, mem 22 10))) → (1 ≤ o ∧ o ≤ 5) →  (5 - o).toNat < fu_3 → J z g 7 0 0 (QM z g 0 0 (pMB (fun c mem' => HR mem' ∧ (∃ S : BS, (c ↔ S.1 ≠ 1000000) ∧ FOR mem mem' ph S)) kd ln sz)) 8 [(0, (2, 22)), (1, (0, ph)), (2, (0, o))] [] kd ln m1 sz := by
    intro fu_3
    induction fu_3 with
    | zero => intro o m1 _ _ _ _ _ hm; omega
    | succ fu_3 ih_1 =>
      intro o m1 hR_m1 hp1 hb1 hc1 ho hm1
      have f41 : m1 22 4 = mem 22 4 := hp1 22 4 (by omega) (by omega) (by omega)
      have f51 : m1 22 5 = mem 22 5 := hp1 22 5 (by omega) (by omega) (by omega)
      have f61 : m1 22 6 = mem 22 6 := hp1 22 6 (by omega) (by omega) (by omega)
      refine jblk hF [(.iload_n 2, 1), (.iconst 4, 1)] (by decide +kernel) (pc' := 10) (lo' := [(0, (2, 22)), (1, (0, ph)), (2, (0, o))]) (st' := [(0, 4), (0, o)]) rfl ?_
      refine jicmp_gt hF (off := 128) 138 (by decide +kernel) (by decide) (by omega) (by decide) (fun h_4 => ?_) (fun h_4 => ?_)
      · have ho5 : (o - 1).toNat = 4 := by omega
        rw [ho5] at hb1 hc1
        have hv7 := hb1.1
        have hc11 := hc1.1
        have hc12 := hc1.2
        refine jblk hF [(.aload_n 0, 1)] (by decide +kernel) (pc' := 139) (lo' := [(0, (2, 22)), (1, (0, ph)), (2, (0, o))]) (st' := [(2, 22)]) rfl ?_
        refine jget hF 5 7 0 7 rfl (by decide) (by decide) rfl wd_269 (by decide +kernel) (by exact hK.k22) ?_
        refine jldc hF 1000000 (cst_i wd_1298 (by decide)) (by decide +kernel) ?_
        refine jicmp_eq hF (off := 7) 151 (by decide +kernel) (by decide) (by omega) (by decide) (fun h_5 => ?_) (fun h_5 => ?_)
        · refine jblk hF [(.iconst 0, 1)] (by decide +kernel) (pc' := 152) (lo' := [(0, (2, 22)), (1, (0, ph)), (2, (0, o))]) (st' := [(0, 0)]) rfl ?_
          refine jzret hF hr (by omega) (by decide +kernel) ?_
          exact lMB0 ⟨hR_m1, by first | exact ⟨_, ⟨fun _ => by omega, fun _ => trivial⟩, hp1, hb1, rfl⟩ | exact ⟨_, ⟨fun h => h.elim, fun h => absurd (by omega) h⟩, hp1, hb1, rfl⟩⟩
        · refine jblk hF [(.iconst 1, 1)] (by decide +kernel) (pc' := 148) (lo' := [(0, (2, 22)), (1, (0, ph)), (2, (0, o))]) (st' := [(0, 1)]) rfl ?_
          refine jgoto hF (off := 4) 152 (by decide +kernel) (by decide) ?_
          refine jzret hF hr (by omega) (by decide +kernel) ?_
          exact lMB1 ⟨hR_m1, by first | exact ⟨_, ⟨fun _ => by omega, fun _ => trivial⟩, hp1, hb1, rfl⟩ | exact ⟨_, ⟨fun h => h.elim, fun h => absurd (by omega) h⟩, hp1, hb1, rfl⟩⟩
      · refine jblk hF [(.iconst 0, 1), (.istore_n 3, 1)] (by decide +kernel) (pc' := 15) (lo' := [(3, (0, 0)), (0, (2, 22)), (1, (0, ph)), (2, (0, o))]) (st' := []) rfl ?_
        have L_7 : ∀ (fu_8 : Nat) (e : Int) (m2 : Int → Int → Int), (HR m2) → (PDC mem m2) → (BPJ m2 (bpC (KAP mem) (hrV ph (mem 22 4)) o e.toNat (bpO (KAP mem) (hrV ph (mem 22 4)) (mem 22 5) (o - 1).toNat (1000000, mem 22 8, mem 22 9, mem 22 10)))) → (BPB (bpC (KAP mem) (hrV ph (mem 22 4)) o e.toNat (bpO (KAP mem) (hrV ph (mem 22 4)) (mem 22 5) (o - 1).toNat (1000000, mem 22 8, mem 22 9, mem 22 10)))) → (0 ≤ e ∧ e ≤ 7 - mem 22 5) →  (7 - mem 22 5 - e).toNat < fu_8 → J z g 7 0 0 (QM z g 0 0 (pMB (fun c mem' => HR mem' ∧ (∃ S : BS, (c ↔ S.1 ≠ 1000000) ∧ FOR mem mem' ph S)) kd ln sz)) 15 [(0, (2, 22)), (1, (0, ph)), (2, (0, o)), (3, (0, e))] [] kd ln m2 sz := by
          intro fu_8
          induction fu_8 with
          | zero => intro e m2 _ _ _ _ _ hm; omega
          | succ fu_8 ih_6 =>
            intro e m2 hR_m2 hp2 hb2 hc2 he hm2
            have f42 : m2 22 4 = mem 22 4 := hp2 22 4 (by omega) (by omega) (by omega)
            have f52 : m2 22 5 = mem 22 5 := hp2 22 5 (by omega) (by omega) (by omega)
            have f62 : m2 22 6 = mem 22 6 := hp2 22 6 (by omega) (by omega) (by omega)
            refine jblk hF [(.iload_n 3, 1), (.bipush 6, 2), (.aload_n 0, 1)] (by decide +kernel) (pc' := 19) (lo' := [(0, (2, 22)), (1, (0, ph)), (2, (0, o)), (3, (0, e))]) (st' := [(2, 22), (0, 6), (0, e)]) rfl ?_
            refine jget hF 5 5 0 5 rfl (by decide) (by decide) rfl wd_267 (by decide +kernel) (by exact hK.k22) ?_
            refine jblk hF [(.isub, 1)] (by decide +kernel) (pc' := 23) (lo' := [(0, (2, 22)), (1, (0, ph)), (2, (0, o)), (3, (0, e))]) (st' := [(0, 6 - (m2 22 5)), (0, e)]) rfl ?_
            refine jicmp_gt hF (off := 109) 132 (by decide +kernel) (by decide) (by omega) (by omega) (fun h_9 => ?_) (fun h_9 => ?_)
            · refine jblk hF [(.iinc 2 1, 3)] (by decide +kernel) (pc' := 135) (lo' := [(2, (0, o + 1)), (0, (2, 22)), (1, (0, ph)), (3, (0, e))]) (st' := []) rfl ?_
              refine jgoto hF (off := (-127)) 8 (by decide +kernel) (by decide) ?_
              refine jsub [1, 2, 0] rfl ?_
              refine ih_1 (o + 1) m2 ?_ ?_ ?_ ?_ ?_ ?_
              · exact hR_m2
              · exact hp2
              · (rw [bpO_s (by omega), show (7 - mem 22 5).toNat = e.toNat by omega]; exact hb2)
              · (rw [bpO_s (by omega), show (7 - mem 22 5).toNat = e.toNat by omega]; exact hc2)
              · omega
              · omega
            · refine jblk hF [(.aload_n 0, 1)] (by decide +kernel) (pc' := 27) (lo' := [(0, (2, 22)), (1, (0, ph)), (2, (0, o)), (3, (0, e))]) (st' := [(2, 22)]) rfl ?_
              refine jget hF 5 2 2 2 rfl (by decide) (by decide) rfl wd_264 (by decide +kernel) (by exact hK.k22) ?_
              rw [HR.r22_2 hR_m2]
              refine jblk hF [(.iconst (-1), 1)] (by decide +kernel) (pc' := 31) (lo' := [(0, (2, 22)), (1, (0, ph)), (2, (0, o)), (3, (0, e))]) (st' := [(0, (-1)), (2, 25)]) rfl ?_
              refine jcallS hF (c_J7_fill_53178 hG 25 (-1) (by exact hK.k25) (by omega) (by omega)) MW_J7_fill_53178 wd_1299 wd_136 (by decide +kernel) [] rfl rfl (by decide) (Nat.le_of_ble_eq_true rfl) (by decide) (kMV (fun m_10 h_11 => ?_))
              have hfl := h_11
              rw [hl25] at hfl
              have hR_m_10 : HR m_10 := hR_m2.of (fun a k w => by rw [hfl]; exact if_neg (by omega))
              have hpf : PDC mem m_10 := fun b j q1 q2 q3 => by rw [hfl]; exact (if_neg (by omega)).trans (hp2 b j q1 q2 q3)
              refine jblk hF [(.iload_n 2, 1), (.iconst 2, 1), (.iadd, 1), (.istore 4, 2)] (by decide +kernel) (pc' := 39) (lo' := [(4, (0, o + 2)), (0, (2, 22)), (1, (0, ph)), (2, (0, o)), (3, (0, e))]) (st' := []) rfl ?_
              have L_13 : ∀ (fu_14 : Nat) (m : Int) (m3 : Int → Int → Int), (HR m3) → (PDC mem m3) → (BPJ m3 (bpM (KAP mem) (hrV ph (mem 22 4)) o e (m - (o + 2)).toNat (bpC (KAP mem) (hrV ph (mem 22 4)) o e.toNat (bpO (KAP mem) (hrV ph (mem 22 4)) (mem 22 5) (o - 1).toNat (1000000, mem 22 8, mem 22 9, mem 22 10))))) → (BPB (bpM (KAP mem) (hrV ph (mem 22 4)) o e (m - (o + 2)).toNat (bpC (KAP mem) (hrV ph (mem 22 4)) o e.toNat (bpO (KAP mem) (hrV ph (mem 22 4)) (mem 22 5) (o - 1).toNat (1000000, mem 22 8, mem 22 9, mem 22 10))))) → (o + 2 ≤ m ∧ m ≤ 41) → (RCH mem m3 o e) →  (41 - m).toNat < fu_14 → J z g 7 0 0 (QM z g 0 0 (pMB (fun c mem' => HR mem' ∧ (∃ S : BS, (c ↔ S.1 ≠ 1000000) ∧ FOR mem mem' ph S)) kd ln sz)) 39 [(0, (2, 22)), (1, (0, ph)), (2, (0, o)), (3, (0, e)), (4, (0, m))] [] kd ln m3 sz := by
                intro fu_14
                induction fu_14 with
                | zero => intro m m3 _ _ _ _ _ _ hm; omega
                | succ fu_14 ih_12 =>
                  intro m m3 hR_m3 hp3 hb3 hc3 hmm hch hm3
                  have f43 : m3 22 4 = mem 22 4 := hp3 22 4 (by omega) (by omega) (by omega)
                  have f53 : m3 22 5 = mem 22 5 := hp3 22 5 (by omega) (by omega) (by omega)
                  have f63 : m3 22 6 = mem 22 6 := hp3 22 6 (by omega) (by omega) (by omega)
                  have hv3 := hb3.1
                  have hc31 := hc3.1
                  have hc32 := hc3.2
                  refine jblk hF [(.iload 4, 2), (.bipush 40, 2)] (by decide +kernel) (pc' := 43) (lo' := [(0, (2, 22)), (1, (0, ph)), (2, (0, o)), (3, (0, e)), (4, (0, m))]) (st' := [(0, 40), (0, m)]) rfl ?_
                  refine jicmp_gt hF (off := 83) 126 (by decide +kernel) (by decide) (by omega) (by decide) (fun h_15 => ?_) (fun h_15 => ?_)
                  · refine jblk hF [(.iinc 3 1, 3)] (by decide +kernel) (pc' := 129) (lo' := [(3, (0, e + 1)), (0, (2, 22)), (1, (0, ph)), (2, (0, o)), (4, (0, m))]) (st' := []) rfl ?_
                    refine jgoto hF (off := (-114)) 15 (by decide +kernel) (by decide) ?_
                    refine jsub [1, 2, 3, 0] rfl ?_
                    refine ih_6 (e + 1) m3 ?_ ?_ ?_ ?_ ?_ ?_
                    · exact hR_m3
                    · exact hp3
                    · (rw [bpC_s (by omega), show (39 - o).toNat = (m - (o + 2)).toNat by omega]; exact hb3)
                    · (rw [bpC_s (by omega), show (39 - o).toNat = (m - (o + 2)).toNat by omega]; exact hc3)
                    · omega
                    · omega
                  · refine jblk hF [(.aload_n 0, 1), (.iload_n 2, 1), (.iload 4, 2)] (by decide +kernel) (pc' := 50) (lo' := [(0, (2, 22)), (1, (0, ph)), (2, (0, o)), (3, (0, e)), (4, (0, m))]) (st' := [(0, m), (0, o), (2, 22)]) rfl ?_
                    refine jcallV hF (c_X4_pivotsOf hG hK hR_m3 o m (by omega)) MW_X4_pivotsOf 5 (by decide) (by exact hK.k22) wd_1300 wd_1302 wd_p40 (by decide +kernel) [] rfl rfl (by decide) (Nat.le_of_ble_eq_true rfl) (by decide) (kV ?_)
                    refine jblk hF [(.istore 5, 2)] (by decide +kernel) (pc' := 55) (lo' := [(5, (0, pvV (m3 22 4) o m)), (0, (2, 22)), (1, (0, ph)), (2, (0, o)), (3, (0, e)), (4, (0, m))]) (st' := []) rfl ?_
                    have hhb := hrV_bd (ph := ph) (L := mem 22 4) (o := o) (e := e) (m := m) (by omega) (by omega) (by omega) (by omega) (by omega)
                    rw [f43]
                    refine jblk hF [(.iload_n 1, 1), (.iload 5, 2), (.imul, 1), (.iload_n 2, 1), (.aload_n 0, 1)] (by decide +kernel) (pc' := 61) (lo' := [(5, (0, pvV (mem 22 4) o m)), (0, (2, 22)), (1, (0, ph)), (2, (0, o)), (3, (0, e)), (4, (0, m))]) (st' := [(2, 22), (0, o), (0, ph * (pvV (mem 22 4) o m))]) rfl ?_
                    refine jget hF 5 4 0 4 rfl (by decide) (by decide) rfl wd_266 (by decide +kernel) (by exact hK.k22) ?_
                    refine jblk hF [(.iload 5, 2), (.isub, 1), (.imul, 1), (.iadd, 1), (.iload_n 3, 1), (.aload_n 0, 1)] (by decide +kernel) (pc' := 71) (lo' := [(5, (0, pvV (mem 22 4) o m)), (0, (2, 22)), (1, (0, ph)), (2, (0, o)), (3, (0, e)), (4, (0, m))]) (st' := [(2, 22), (0, e), (0, (ph * (pvV (mem 22 4) o m)) + (o * ((m3 22 4) - (pvV (mem 22 4) o m))))]) rfl ?_
                    refine jget hF 5 4 0 4 rfl (by decide) (by decide) rfl wd_266 (by decide +kernel) (by exact hK.k22) ?_
                    refine jblk hF [(.imul, 1), (.iadd, 1), (.istore 6, 2)] (by decide +kernel) (pc' := 78) (lo' := [(6, (0, ((ph * (pvV (mem 22 4) o m)) + (o * ((m3 22 4) - (pvV (mem 22 4) o m)))) + (e * (m3 22 4)))), (5, (0, pvV (mem 22 4) o m)), (0, (2, 22)), (1, (0, ph)), (2, (0, o)), (3, (0, e)), (4, (0, m))]) (st' := []) rfl ?_
                    rw [f43]
                    refine jblk hF [(.iload 6, 2), (.aload_n 0, 1)] (by decide +kernel) (pc' := 81) (lo' := [(6, (0, ((ph * (pvV (mem 22 4) o m)) + (o * ((mem 22 4) - (pvV (mem 22 4) o m)))) + (e * (mem 22 4)))), (5, (0, pvV (mem 22 4) o m)), (0, (2, 22)), (1, (0, ph)), (2, (0, o)), (3, (0, e)), (4, (0, m))]) (st' := [(2, 22), (0, ((ph * (pvV (mem 22 4) o m)) + (o * ((mem 22 4) - (pvV (mem 22 4) o m)))) + (e * (mem 22 4)))]) rfl ?_
                    refine jget hF 5 7 0 7 rfl (by decide) (by decide) rfl wd_269 (by decide +kernel) (by exact hK.k22) ?_
                    refine jicmp_ge hF (off := 36) 120 (by decide +kernel) (by decide) (by omega) (by omega) (fun h_16 => ?_) (fun h_16 => ?_)
                    · refine jblk hF [(.iinc 4 1, 3)] (by decide +kernel) (pc' := 123) (lo' := [(4, (0, m + 1)), (6, (0, ((ph * (pvV (mem 22 4) o m)) + (o * ((mem 22 4) - (pvV (mem 22 4) o m)))) + (e * (mem 22 4)))), (5, (0, pvV (mem 22 4) o m)), (0, (2, 22)), (1, (0, ph)), (2, (0, o)), (3, (0, e))]) (st' := []) rfl ?_
                      refine jgoto hF (off := (-84)) 39 (by decide +kernel) (by decide) ?_
                      refine jsub [3, 4, 5, 6, 0] rfl ?_
                      refine ih_12 (m + 1) m3 ?_ ?_ ?_ ?_ ?_ ?_ ?_
                      · exact hR_m3
                      · first | exact fun b j q1 q2 q3 => (by unfold set2; rw [if_neg (by omega), if_neg (by omega), if_neg (by omega), if_neg (by omega)]; exact hpk b j q1 q2 q3) | exact hpk | exact hp3
                      · first | (rw [bpM_s (by omega), hst]; exact BPJ.put) | (rw [bpM_s (by omega), bpS_f (fun w => hkp.1.mpr ((hp3.kap o e m).mpr w.2))]; exact hb3.cg (fun j q1 q2 => hkp.2.2 22 j (by decide) (by decide))) | (rw [bpM_s (by omega), bpS_f (fun w => by have w1 := w.1; rw [← hb3.1] at w1; have w2 : ph * pvV (mem 22 4) o m + o * (mem 22 4 - pvV (mem 22 4) o m) + e * mem 22 4 < m3 22 7 := w1; omega)]; exact hb3)
                      · first | (rw [bpM_s (by omega), hst]; exact ⟨(by show 0 ≤ ph * pvV (mem 22 4) o m + o * (mem 22 4 - pvV (mem 22 4) o m) + e * mem 22 4; omega), (by show ph * pvV (mem 22 4) o m + o * (mem 22 4 - pvV (mem 22 4) o m) + e * mem 22 4 ≤ 1000000; omega)⟩) | (rw [bpM_s (by omega), bpS_f (fun w => hkp.1.mpr ((hp3.kap o e m).mpr w.2))]; exact hc3) | (rw [bpM_s (by omega), bpS_f (fun w => by have w1 := w.1; rw [← hb3.1] at w1; have w2 : ph * pvV (mem 22 4) o m + o * (mem 22 4 - pvV (mem 22 4) o m) + e * mem 22 4 < m3 22 7 := w1; omega)]; exact hc3)
                      · omega
                      · first | exact hck.cg (fun j => by unfold set2; rw [if_neg (by omega), if_neg (by omega), if_neg (by omega), if_neg (by omega)]) | exact hck | exact hch
                      · omega
                    · have hlt : (hrV ph (mem 22 4)) o e m < (bpM (KAP mem) (hrV ph (mem 22 4)) o e (m - (o + 2)).toNat (bpC (KAP mem) (hrV ph (mem 22 4)) o e.toNat (bpO (KAP mem) (hrV ph (mem 22 4)) (mem 22 5) (o - 1).toNat (1000000, mem 22 8, mem 22 9, mem 22 10)))).1 := by rw [← hb3.1]; show ph * pvV (mem 22 4) o m + o * (mem 22 4 - pvV (mem 22 4) o m) + e * mem 22 4 < _; omega
                      refine jblk hF [(.aload_n 0, 1), (.iload_n 2, 1), (.iload_n 3, 1), (.iload 4, 2)] (by decide +kernel) (pc' := 92) (lo' := [(6, (0, ((ph * (pvV (mem 22 4) o m)) + (o * ((mem 22 4) - (pvV (mem 22 4) o m)))) + (e * (mem 22 4)))), (5, (0, pvV (mem 22 4) o m)), (0, (2, 22)), (1, (0, ph)), (2, (0, o)), (3, (0, e)), (4, (0, m))]) (st' := [(0, m), (0, e), (0, o), (2, 22)]) rfl ?_
                      refine jcallV hF (c_X4_keepsAll hG hK hR_m3 o e m (by assumption) (by omega) (by exact hp3.rchb hch)) MW_X4_keepsAll 5 (by decide) (by exact hK.k22) wd_1304 wd_1306 wd_p41 (by decide +kernel) [] rfl rfl (by decide) (Nat.le_of_ble_eq_true rfl) (by decide) (kMB (fun m_17 h_18 => ?_) (fun m_17 h_18 => ?_))
                      · obtain ⟨hR_m_17, h_18⟩ := h_18
                        have hkp := h_18
                        have hpk : PDC mem m_17 := fun b j q1 q2 q3 => (hkp.2.2 b j q1 q2).trans (hp3 b j q1 q2 q3)
                        have hck := hp3.rch hkp.2.1
                        refine jif_eq hF (off := 25) 120 (by decide +kernel) (by decide) (by decide) (fun h => absurd h (by decide)) (fun _ => ?_)
                        have hkt : KAP mem o e m := (hp3.kap o e m).mp (hkp.1.mp trivial)
                        have hst : bpS (KAP mem) (hrV ph (mem 22 4)) o e m (bpM (KAP mem) (hrV ph (mem 22 4)) o e (m - (o + 2)).toNat (bpC (KAP mem) (hrV ph (mem 22 4)) o e.toNat (bpO (KAP mem) (hrV ph (mem 22 4)) (mem 22 5) (o - 1).toNat (1000000, mem 22 8, mem 22 9, mem 22 10)))) = (ph * pvV (mem 22 4) o m + o * (mem 22 4 - pvV (mem 22 4) o m) + e * mem 22 4, o, e, m) := bpS_t hlt hkt
                        refine jblk hF [(.aload_n 0, 1), (.iload 6, 2)] (by decide +kernel) (pc' := 101) (lo' := [(6, (0, ((ph * (pvV (mem 22 4) o m)) + (o * ((mem 22 4) - (pvV (mem 22 4) o m)))) + (e * (mem 22 4)))), (5, (0, pvV (mem 22 4) o m)), (0, (2, 22)), (1, (0, ph)), (2, (0, o)), (3, (0, e)), (4, (0, m))]) (st' := [(0, ((ph * (pvV (mem 22 4) o m)) + (o * ((mem 22 4) - (pvV (mem 22 4) o m)))) + (e * (mem 22 4))), (2, 22)]) rfl ?_
                        refine jput hF 5 7 0 7 rfl (by decide) (by decide) rfl wd_269 (by decide +kernel) rfl (Or.inl rfl) (by exact hK.k22) (fun h => by cases h) ?_
                        refine jblk hF [(.aload_n 0, 1), (.iload_n 2, 1)] (by decide +kernel) (pc' := 106) (lo' := [(6, (0, ((ph * (pvV (mem 22 4) o m)) + (o * ((mem 22 4) - (pvV (mem 22 4) o m)))) + (e * (mem 22 4)))), (5, (0, pvV (mem 22 4) o m)), (0, (2, 22)), (1, (0, ph)), (2, (0, o)), (3, (0, e)), (4, (0, m))]) (st' := [(0, o), (2, 22)]) rfl ?_
                        refine jput hF 5 8 0 8 rfl (by decide) (by decide) rfl wd_271 (by decide +kernel) rfl (Or.inl rfl) (by exact hK.k22) (fun h => by cases h) ?_
                        refine jblk hF [(.aload_n 0, 1), (.iload_n 3, 1)] (by decide +kernel) (pc' := 111) (lo' := [(6, (0, ((ph * (pvV (mem 22 4) o m)) + (o * ((mem 22 4) - (pvV (mem 22 4) o m)))) + (e * (mem 22 4)))), (5, (0, pvV (mem 22 4) o m)), (0, (2, 22)), (1, (0, ph)), (2, (0, o)), (3, (0, e)), (4, (0, m))]) (st' := [(0, e), (2, 22)]) rfl ?_
                        refine jput hF 5 9 0 9 rfl (by decide) (by decide) rfl wd_273 (by decide +kernel) rfl (Or.inl rfl) (by exact hK.k22) (fun h => by cases h) ?_
                        refine jblk hF [(.aload_n 0, 1), (.iload 4, 2)] (by decide +kernel) (pc' := 117) (lo' := [(6, (0, ((ph * (pvV (mem 22 4) o m)) + (o * ((mem 22 4) - (pvV (mem 22 4) o m)))) + (e * (mem 22 4)))), (5, (0, pvV (mem 22 4) o m)), (0, (2, 22)), (1, (0, ph)), (2, (0, o)), (3, (0, e)), (4, (0, m))]) (st' := [(0, m), (2, 22)]) rfl ?_
                        refine jput hF 5 10 0 10 rfl (by decide) (by decide) rfl wd_275 (by decide +kernel) rfl (Or.inl rfl) (by exact hK.k22) (fun h => by cases h) ?_
                        refine jblk hF [(.iinc 4 1, 3)] (by decide +kernel) (pc' := 123) (lo' := [(4, (0, m + 1)), (6, (0, ((ph * (pvV (mem 22 4) o m)) + (o * ((mem 22 4) - (pvV (mem 22 4) o m)))) + (e * (mem 22 4)))), (5, (0, pvV (mem 22 4) o m)), (0, (2, 22)), (1, (0, ph)), (2, (0, o)), (3, (0, e))]) (st' := []) rfl ?_
                        refine jgoto hF (off := (-84)) 39 (by decide +kernel) (by decide) ?_
                        refine jsub [3, 4, 5, 6, 0] rfl ?_
                        refine ih_12 (m + 1) (set2 (set2 (set2 (set2 m_17 22 7 (((ph * (pvV (mem 22 4) o m)) + (o * ((mem 22 4) - (pvV (mem 22 4) o m)))) + (e * (mem 22 4)))) 22 8 o) 22 9 e) 22 10 m) ?_ ?_ ?_ ?_ ?_ ?_ ?_
                        · exact (HR.s (HR.s (HR.s (HR.s hR_m_17 (by omega)) (by omega)) (by omega)) (by omega))
                        · first | exact fun b j q1 q2 q3 => (by unfold set2; rw [if_neg (by omega), if_neg (by omega), if_neg (by omega), if_neg (by omega)]; exact hpk b j q1 q2 q3) | exact hpk | exact hp3
                        · first | (rw [bpM_s (by omega), hst]; exact BPJ.put) | (rw [bpM_s (by omega), bpS_f (fun w => hkp.1.mpr ((hp3.kap o e m).mpr w.2))]; exact hb3.cg (fun j q1 q2 => hkp.2.2 22 j (by decide) (by decide))) | (rw [bpM_s (by omega), bpS_f (fun w => by have w1 := w.1; rw [← hb3.1] at w1; have w2 : ph * pvV (mem 22 4) o m + o * (mem 22 4 - pvV (mem 22 4) o m) + e * mem 22 4 < m3 22 7 := w1; omega)]; exact hb3)
                        · first | (rw [bpM_s (by omega), hst]; exact ⟨(by show 0 ≤ ph * pvV (mem 22 4) o m + o * (mem 22 4 - pvV (mem 22 4) o m) + e * mem 22 4; omega), (by show ph * pvV (mem 22 4) o m + o * (mem 22 4 - pvV (mem 22 4) o m) + e * mem 22 4 ≤ 1000000; omega)⟩) | (rw [bpM_s (by omega), bpS_f (fun w => hkp.1.mpr ((hp3.kap o e m).mpr w.2))]; exact hc3) | (rw [bpM_s (by omega), bpS_f (fun w => by have w1 := w.1; rw [← hb3.1] at w1; have w2 : ph * pvV (mem 22 4) o m + o * (mem 22 4 - pvV (mem 22 4) o m) + e * mem 22 4 < m3 22 7 := w1; omega)]; exact hc3)
                        · omega
                        · first | exact hck.cg (fun j => by unfold set2; rw [if_neg (by omega), if_neg (by omega), if_neg (by omega), if_neg (by omega)]) | exact hck | exact hch
                        · omega
                      · obtain ⟨hR_m_17, h_18⟩ := h_18
                        have hkp := h_18
                        have hpk : PDC mem m_17 := fun b j q1 q2 q3 => (hkp.2.2 b j q1 q2).trans (hp3 b j q1 q2 q3)
                        have hck := hp3.rch hkp.2.1
                        refine jif_eq hF (off := 25) 120 (by decide +kernel) (by decide) (by decide) (fun _ => ?_) (fun h => absurd h (by decide))
                        refine jblk hF [(.iinc 4 1, 3)] (by decide +kernel) (pc' := 123) (lo' := [(4, (0, m + 1)), (6, (0, ((ph * (pvV (mem 22 4) o m)) + (o * ((mem 22 4) - (pvV (mem 22 4) o m)))) + (e * (mem 22 4)))), (5, (0, pvV (mem 22 4) o m)), (0, (2, 22)), (1, (0, ph)), (2, (0, o)), (3, (0, e))]) (st' := []) rfl ?_
                        refine jgoto hF (off := (-84)) 39 (by decide +kernel) (by decide) ?_
                        refine jsub [3, 4, 5, 6, 0] rfl ?_
                        refine ih_12 (m + 1) m_17 ?_ ?_ ?_ ?_ ?_ ?_ ?_
                        · exact hR_m_17
                        · first | exact fun b j q1 q2 q3 => (by unfold set2; rw [if_neg (by omega), if_neg (by omega), if_neg (by omega), if_neg (by omega)]; exact hpk b j q1 q2 q3) | exact hpk | exact hp3
                        · first | (rw [bpM_s (by omega), hst]; exact BPJ.put) | (rw [bpM_s (by omega), bpS_f (fun w => hkp.1.mpr ((hp3.kap o e m).mpr w.2))]; exact hb3.cg (fun j q1 q2 => hkp.2.2 22 j (by decide) (by decide))) | (rw [bpM_s (by omega), bpS_f (fun w => by have w1 := w.1; rw [← hb3.1] at w1; have w2 : ph * pvV (mem 22 4) o m + o * (mem 22 4 - pvV (mem 22 4) o m) + e * mem 22 4 < m3 22 7 := w1; omega)]; exact hb3)
                        · first | (rw [bpM_s (by omega), hst]; exact ⟨(by show 0 ≤ ph * pvV (mem 22 4) o m + o * (mem 22 4 - pvV (mem 22 4) o m) + e * mem 22 4; omega), (by show ph * pvV (mem 22 4) o m + o * (mem 22 4 - pvV (mem 22 4) o m) + e * mem 22 4 ≤ 1000000; omega)⟩) | (rw [bpM_s (by omega), bpS_f (fun w => hkp.1.mpr ((hp3.kap o e m).mpr w.2))]; exact hc3) | (rw [bpM_s (by omega), bpS_f (fun w => by have w1 := w.1; rw [← hb3.1] at w1; have w2 : ph * pvV (mem 22 4) o m + o * (mem 22 4 - pvV (mem 22 4) o m) + e * mem 22 4 < m3 22 7 := w1; omega)]; exact hc3)
                        · omega
                        · first | exact hck.cg (fun j => by unfold set2; rw [if_neg (by omega), if_neg (by omega), if_neg (by omega), if_neg (by omega)]) | exact hck | exact hch
                        · omega
              refine jsub [1, 2, 3, 4, 0] rfl ?_
              refine L_13 _ (o + 2) m_10 ?_ ?_ ?_ ?_ ?_ ?_ (Nat.lt_succ_self _)
              · exact hR_m_10
              · exact hpf
              · (rw [show (o + 2 - (o + 2)).toNat = 0 by omega]; exact hb2.cg (fun j q1 q2 => by rw [hfl]; exact if_neg (by omega)))
              · (rw [show (o + 2 - (o + 2)).toNat = 0 by omega]; exact hc2)
              · omega
              · exact fun t q1 q2 => Or.inl (by rw [hfl]; exact if_pos ⟨rfl, q1, q2⟩)
        refine jsub [1, 2, 3, 0] rfl ?_
        refine L_7 _ 0 m1 ?_ ?_ ?_ ?_ ?_ (Nat.lt_succ_self _)
        · exact hR_m1
        · exact hp1
        · exact hb1
        · exact hc1
        · omega
  refine jsub [1, 2, 0] rfl ?_
  refine L_2 _ 1 (set2 mem 22 7 1000000) ?_ ?_ ?_ ?_ ?_ (Nat.lt_succ_self _)
  · exact (HR.s hR (by omega))
  · exact fun b j _ _ w => if_neg (by omega)
  · exact ⟨s2_s, s2_k (by decide), s2_k (by decide), s2_k (by decide)⟩
  · exact ⟨(by decide : (0 : Int) ≤ 1000000), (by decide : (1000000 : Int) ≤ 1000000)⟩
  · omega
end
