section
section
variable {kd : Int → Nat} {ln : Int → Int} {mem : Int → Int → Int} {sz : Nat} {tg : Int → Int}
theorem INV.cop (h : INV kd ln mem sz tg) {c : Int} (h0 : 0 ≤ c) (h1 : c < mem 35 79) : kd (mem (mem 31 1) c) = 11 ∧ OWN sz tg (mem (mem 31 1) c) (31 * 10000 + 100 * (c + 1)) ∧ O31 kd ln mem sz tg mem c (mem (mem 31 1) c) := h.g31.2.2.2 c h0 h1
theorem INV.oth (h : INV kd ln mem sz tg) {c : Int} (h0 : 0 ≤ c) (h1 : c < mem 35 84) : kd (mem (mem 32 1) c) = 11 ∧ OWN sz tg (mem (mem 32 1) c) (32 * 10000 + 100 * (c + 1)) ∧ O32 kd ln mem sz tg mem c (mem (mem 32 1) c) := h.g32.2.2.2 c h0 h1
theorem INV.err (h : INV kd ln mem sz tg) {c : Int} (h0 : 0 ≤ c) (h1 : c < mem 35 80) : kd (mem (mem 33 1) c) = 3 ∧ OWN sz tg (mem (mem 33 1) c) (33 * 10000 + 100 * (c + 1)) ∧ O33 mem mem c (mem (mem 33 1) c) := h.g33.2.2.2 c h0 h1
end
set_option maxHeartbeats 4000000 in
set_option maxRecDepth 100000 in
theorem c_X11_printed {l : Launch} {g : GP} (hG : GH g) {kd : Int → Nat} {ln : Int → Int} {mem : Int → Int → Int} {sz : Nat} (hK : HK kd ln) (hR : HR mem) (p n : Int) (tg : Int → Int) (hI : INV kd ln mem sz tg) (hTN : TNS g) (hok : isLn mem p n ∧ mem 82 p = 1) (h_p : InI p) (h_n : InI n) : MT l g yX11_printed cX11_printed 4 (some .long) 6 0 0 [(2, 3), (0, p), (0, n)] kd ln mem sz (pV (1, prtV mem p n) kd ln mem sz) := by
  refine MT_of hG (by decide +kernel) (Nat.le_of_ble_eq_true rfl) (fun z hF hr hn => ?_)
  obtain ⟨⟨q0, q1, q2, q3, q4, q5⟩, u0, u2, u46, u89, usz⟩ := hI.num
  have n29 : 0 ≤ mem 35 33 ∧ mem 35 33 ≤ 12 := ⟨hI.pgs.1, hI.pgs.2.1⟩
  obtain ⟨e29, k29, r29, b29, c29⟩ := hI.g29.ls
  refine jblk hF [(.aload_n 0, 1), (.iload_n 1, 1), (.iload_n 2, 1)] (by decide +kernel) (pc' := 3) (lo' := [(0, (2, 3)), (1, (0, p)), (2, (0, n))]) (st' := [(0, n), (0, p), (2, 3)]) rfl ?_
  refine jcallV hF (c_X11_plateWith hG hK hR p n (by exact tg) (by assumption) (by omega) (by omega)) MW_X11_plateWith 12 (by decide) (by exact hK.k3) wd_1135 wd_1137 wd_p37 (by decide +kernel) [] rfl rfl (by decide) (Nat.le_of_ble_eq_true rfl) (by decide) (kR (fun v_1 h_2 => ?_))
  have hv := h_2
  refine jblk hF [(.astore_n 3, 1), (.aload_n 3, 1)] (by decide +kernel) (pc' := 8) (lo' := [(3, (2, v_1)), (0, (2, 3)), (1, (0, p)), (2, (0, n))]) (st' := [(2, v_1)]) rfl ?_
  refine jnonnull hF (off := 11) 19 (by decide +kernel) (by decide) (fun h_3 => ?_) (fun h_3 => ?_)
  · obtain ⟨hpg, hpo⟩ := hv.1 (by omega)
    have hplt := hpo.plt hpg.2
    have h18 := hpo.r8 (k := 18) (by decide)
    have hrs := hI.prs
    have hgn := hpo.nm
    have hn2 := hgn.2.2.1
    have hk := hpo.at
    have hpb := hpo.pb
    refine jblk hF [(.aload_n 3, 1), (.iload_n 2, 1)] (by decide +kernel) (pc' := 21) (lo' := [(3, (2, v_1)), (0, (2, 3)), (1, (0, p)), (2, (0, n))]) (st' := [(0, n), (2, v_1)]) rfl ?_
    refine jcallV hF (c_X3_printedOf hG hK hR v_1 n (by assumption) (by exact hk.1) (by omega) (by exact ⟨h18.1, h18.2.1, by omega⟩) (by exact fun _ => hplt.1) (by exact hpo.wa) (by omega) (by exact hplt.2.2.2) (by exact hpo.nib hrs) (by omega)) MW_X3_printedOf 4 (by decide) (by first | assumption | omega) wd_1153 wd_1154 wd_1155 (by decide +kernel) [] rfl rfl (by decide) (Nat.le_of_ble_eq_true rfl) (by decide) (kV ?_)
    refine jlret hF hr (by decide +kernel) ?_
    exact lV (by exact hpo.prt hrs hpg.2 (by omega))
  · exfalso; exact (hv.2 (by omega)).1 hok
set_option maxHeartbeats 4000000 in
set_option maxRecDepth 100000 in
theorem c_X11_copied {l : Launch} {g : GP} (hG : GH g) {kd : Int → Nat} {ln : Int → Int} {mem : Int → Int → Int} {sz : Nat} (hK : HK kd ln) (hR : HR mem) (c n : Int) (tg : Int → Int) (hI : INV kd ln mem sz tg) (hok : isCp mem c ∧ 0 ≤ n ∧ n ≤ mem 47 (mem 88 c) - 1) (h_c : InI c) (h_n : InI n) : MT l g yX11_copied cX11_copied 3 (some .long) 5 0 0 [(2, 3), (0, c), (0, n)] kd ln mem sz (pV (1, mem 89 (40 * c + n)) kd ln mem sz) := by
  refine MT_of hG (by decide +kernel) (Nat.le_of_ble_eq_true rfl) (fun z hF hr hn => ?_)
  obtain ⟨⟨q0, q1, q2, q3, q4, q5⟩, u0, u2, u46, u89, usz⟩ := hI.num
  have n31 : 0 ≤ mem 35 79 ∧ mem 35 79 ≤ 8 := ⟨hI.cps.1, hI.cps.2.1⟩
  have n29 : 0 ≤ mem 35 33 ∧ mem 35 33 ≤ 12 := ⟨hI.pgs.1, hI.pgs.2.1⟩
  obtain ⟨e31, k31, r31, b31, c31⟩ := hI.g31.ls
  obtain ⟨e29, k29, r29, b29, c29⟩ := hI.g29.ls
  obtain ⟨cc, hcc⟩ : ∃ y : Int, y = mem (mem 31 1) c := ⟨_, rfl⟩
  have hob := hI.cop (c := c) (by omega) (by omega)
  rw [← hcc] at hob
  have hk := hob.1
  have ho := hob.2.1.1
  obtain ⟨o1, o2, o3⟩ := hob.2.2
  have hcp := hI.cps.2.2 c (by omega) (by omega)
  have hpgc := hI.pgs.2.2 (mem 88 c) (by omega) (by omega)
  have hkr := o2.1
  have hlr := o2.2.1
  have hrr := o2.2.2.1
  refine jblk hF [(.iload_n 1, 1), (.iconst 0, 1), (.aload_n 0, 1)] (by decide +kernel) (pc' := 3) (lo' := [(0, (2, 3)), (1, (0, c)), (2, (0, n))]) (st' := [(2, 3), (0, 0), (0, c)]) rfl ?_
  refine jget hF 12 16 2 16 rfl (by decide) (by decide) rfl wd_342 (by decide +kernel) (by exact hK.k3) ?_
  rw [HR.r3_16 hR]
  refine jcallV hF (c_Jx4a65c_size_8abf5 hG 31 (by first | assumption | omega)) MW_Jx4a65c_size_8abf5 0 (by decide) (by exact hK.k31) wd_410 wd_411 wd_412 (by decide +kernel) [(0, 0), (0, c)] rfl rfl (by decide) (Nat.le_of_ble_eq_true rfl) (by decide) (kV ?_)
  rw [e31]
  refine jblk hF [(.iconst 1, 1), (.isub, 1)] (by decide +kernel) (pc' := 11) (lo' := [(0, (2, 3)), (1, (0, c)), (2, (0, n))]) (st' := [(0, (mem 35 79) - 1), (0, 0), (0, c)]) rfl ?_
  refine jcallS hF (c_X11_within hG c 0 ((mem 35 79) - 1) (by omega) (by decide) (by omega)) MW_X11_within wd_391 wd_392 (by decide +kernel) [] rfl rfl (by decide) (Nat.le_of_ble_eq_true rfl) (by decide) (kB (fun h_1 => ?_) (fun h_1 => ?_))
  · refine jif_eq hF (off := 25) 39 (by decide +kernel) (by decide) (by decide) (fun h => absurd h (by decide)) (fun _ => ?_)
    refine jblk hF [(.aload_n 0, 1), (.aload_n 0, 1)] (by decide +kernel) (pc' := 19) (lo' := [(0, (2, 3)), (1, (0, c)), (2, (0, n))]) (st' := [(2, 3), (2, 3)]) rfl ?_
    refine jget hF 12 16 2 16 rfl (by decide) (by decide) rfl wd_342 (by decide +kernel) (by exact hK.k3) ?_
    rw [HR.r3_16 hR]
    refine jblk hF [(.iload_n 1, 1)] (by decide +kernel) (pc' := 23) (lo' := [(0, (2, 3)), (1, (0, c)), (2, (0, n))]) (st' := [(0, c), (2, 31), (2, 3)]) rfl ?_
    refine jcallV hF (c_Jx4a65c_get_915e3 hG 31 c (by first | assumption | omega) (by first | assumption | omega) (by omega)) MW_Jx4a65c_get_915e3 0 (by decide) (by exact hK.k31) wd_498 wd_499 wd_500 (by decide +kernel) [(2, 3)] rfl rfl (by decide) (Nat.le_of_ble_eq_true rfl) (by decide) (kV ?_)
    rw [← hcc]
    refine jcast hF 10 (by decide) wd_1164 (by decide +kernel) (by first | exact hk | exact hkr | assumption | omega) ?_
    refine jget hF 10 0 0 0 rfl (by decide) (by decide) rfl wd_1171 (by decide +kernel) (by first | exact hk | exact hkr | assumption | omega) ?_
    rw [o1]
    refine jblk hF [(.iload_n 2, 1)] (by decide +kernel) (pc' := 33) (lo' := [(0, (2, 3)), (1, (0, c)), (2, (0, n))]) (st' := [(0, n), (0, mem 88 c), (2, 3)]) rfl ?_
    refine jcallV hF (c_X11_pageWith hG hK hR (mem 88 c) n (by exact tg) (by assumption) (by omega) (by omega)) MW_X11_pageWith 12 (by decide) (by exact hK.k3) wd_869 wd_871 wd_p25 (by decide +kernel) [] rfl rfl (by decide) (Nat.le_of_ble_eq_true rfl) (by decide) (kR (fun v_3 h_4 => ?_))
    have hv := h_4
    refine jnonnull hF (off := 11) 47 (by decide +kernel) (by decide) (fun h_5 => ?_) (fun h_5 => ?_)
    · refine jblk hF [(.aload_n 0, 1)] (by decide +kernel) (pc' := 48) (lo' := [(0, (2, 3)), (1, (0, c)), (2, (0, n))]) (st' := [(2, 3)]) rfl ?_
      refine jget hF 12 16 2 16 rfl (by decide) (by decide) rfl wd_342 (by decide +kernel) (by exact hK.k3) ?_
      rw [HR.r3_16 hR]
      refine jblk hF [(.iload_n 1, 1)] (by decide +kernel) (pc' := 52) (lo' := [(0, (2, 3)), (1, (0, c)), (2, (0, n))]) (st' := [(0, c), (2, 31)]) rfl ?_
      refine jcallV hF (c_Jx4a65c_get_915e3 hG 31 c (by first | assumption | omega) (by first | assumption | omega) (by omega)) MW_Jx4a65c_get_915e3 0 (by decide) (by exact hK.k31) wd_498 wd_499 wd_500 (by decide +kernel) [] rfl rfl (by decide) (Nat.le_of_ble_eq_true rfl) (by decide) (kV ?_)
      rw [← hcc]
      refine jcast hF 10 (by decide) wd_1164 (by decide +kernel) (by first | exact hk | exact hkr | assumption | omega) ?_
      refine jget hF 10 1 2 1 rfl (by decide) (by decide) rfl wd_1173 (by decide +kernel) (by first | exact hk | exact hkr | assumption | omega) ?_
      refine jblk hF [(.iload_n 2, 1)] (by decide +kernel) (pc' := 62) (lo' := [(0, (2, 3)), (1, (0, c)), (2, (0, n))]) (st' := [(0, n), (2, mem cc 1)]) rfl ?_
      refine jlald hF (by decide +kernel) (by first | exact hk | exact hkr | assumption | omega) (by omega) (by omega) ?_
      refine jlret hF hr (by decide +kernel) ?_
      exact lV (by exact o3 n (by omega) (by omega))
    · exfalso; first | omega | (have := (hv.2 (by omega)).1; omega)
  · refine jif_eq hF (off := 25) 39 (by decide +kernel) (by decide) (by decide) (fun _ => ?_) (fun h => absurd h (by decide))
    exfalso; first | omega | (have := (hv.2 (by omega)).1; omega)
set_option maxHeartbeats 4000000 in
set_option maxRecDepth 100000 in
theorem c_X11_errors {l : Launch} {g : GP} (hG : GH g) {kd : Int → Nat} {ln : Int → Int} {mem : Int → Int → Int} {sz : Nat} (hK : HK kd ln) (hR : HR mem) (c : Int) (tg : Int → Int) (hI : INV kd ln mem sz tg) (h_c : InI c) : MT l g yX11_errors cX11_errors 6 (some .int) 4 0 0 [(2, 3), (0, c)] kd ln mem sz (pV (0, if isCp mem c then erN mem c (mem 88 c) (mem 47 (mem 88 c)).toNat else -1) kd ln mem sz) := by
  refine MT_of hG (by decide +kernel) (Nat.le_of_ble_eq_true rfl) (fun z hF hr hn => ?_)
  obtain ⟨⟨q0, q1, q2, q3, q4, q5⟩, u0, u2, u46, u89, usz⟩ := hI.num
  have n31 : 0 ≤ mem 35 79 ∧ mem 35 79 ≤ 8 := ⟨hI.cps.1, hI.cps.2.1⟩
  have n29 : 0 ≤ mem 35 33 ∧ mem 35 33 ≤ 12 := ⟨hI.pgs.1, hI.pgs.2.1⟩
  obtain ⟨e31, k31, r31, b31, c31⟩ := hI.g31.ls
  obtain ⟨e29, k29, r29, b29, c29⟩ := hI.g29.ls
  refine jblk hF [(.iload_n 1, 1), (.iconst 0, 1), (.aload_n 0, 1)] (by decide +kernel) (pc' := 3) (lo' := [(0, (2, 3)), (1, (0, c))]) (st' := [(2, 3), (0, 0), (0, c)]) rfl ?_
  refine jget hF 12 16 2 16 rfl (by decide) (by decide) rfl wd_342 (by decide +kernel) (by exact hK.k3) ?_
  rw [HR.r3_16 hR]
  refine jcallV hF (c_Jx4a65c_size_8abf5 hG 31 (by first | assumption | omega)) MW_Jx4a65c_size_8abf5 0 (by decide) (by exact hK.k31) wd_410 wd_411 wd_412 (by decide +kernel) [(0, 0), (0, c)] rfl rfl (by decide) (Nat.le_of_ble_eq_true rfl) (by decide) (kV ?_)
  rw [e31]
  refine jblk hF [(.iconst 1, 1), (.isub, 1)] (by decide +kernel) (pc' := 11) (lo' := [(0, (2, 3)), (1, (0, c))]) (st' := [(0, (mem 35 79) - 1), (0, 0), (0, c)]) rfl ?_
  refine jcallS hF (c_X11_within hG c 0 ((mem 35 79) - 1) (by omega) (by decide) (by omega)) MW_X11_within wd_391 wd_392 (by decide +kernel) [] rfl rfl (by decide) (Nat.le_of_ble_eq_true rfl) (by decide) (kB (fun h_1 => ?_) (fun h_1 => ?_))
  · refine jif_ne hF (off := 5) 19 (by decide +kernel) (by decide) (by decide) (fun _ => ?_) (fun h => absurd h (by decide))
    refine jblk hF [(.aload_n 0, 1)] (by decide +kernel) (pc' := 20) (lo' := [(0, (2, 3)), (1, (0, c))]) (st' := [(2, 3)]) rfl ?_
    refine jget hF 12 16 2 16 rfl (by decide) (by decide) rfl wd_342 (by decide +kernel) (by exact hK.k3) ?_
    rw [HR.r3_16 hR]
    refine jblk hF [(.iload_n 1, 1)] (by decide +kernel) (pc' := 24) (lo' := [(0, (2, 3)), (1, (0, c))]) (st' := [(0, c), (2, 31)]) rfl ?_
    refine jcallV hF (c_Jx4a65c_get_915e3 hG 31 c (by first | assumption | omega) (by first | assumption | omega) (by omega)) MW_Jx4a65c_get_915e3 0 (by decide) (by exact hK.k31) wd_498 wd_499 wd_500 (by decide +kernel) [] rfl rfl (by decide) (Nat.le_of_ble_eq_true rfl) (by decide) (kV ?_)
    obtain ⟨cc, hcc⟩ : ∃ y : Int, y = mem (mem 31 1) c := ⟨_, rfl⟩
    have hob := hI.cop (c := c) (by omega) (by omega)
    rw [← hcc] at hob
    rw [← hcc]
    have hk := hob.1
    have ho := hob.2.1.1
    obtain ⟨o1, o2, o3⟩ := hob.2.2
    have hcp := hI.cps.2.2 c (by omega) (by omega)
    have hkr := o2.1
    have hlr := o2.2.1
    have hrr := o2.2.2.1
    refine jcast hF 10 (by decide) wd_1164 (by decide +kernel) (by first | exact hk | exact hkr | exact hkp.1 | exact h15.1 | assumption | omega) ?_
    refine jblk hF [(.astore_n 2, 1), (.aload_n 0, 1), (.aload_n 2, 1)] (by decide +kernel) (pc' := 33) (lo' := [(2, (2, cc)), (0, (2, 3)), (1, (0, c))]) (st' := [(2, cc), (2, 3)]) rfl ?_
    refine jget hF 10 0 0 0 rfl (by decide) (by decide) rfl wd_1171 (by decide +kernel) (by first | exact hk | exact hkr | exact hkp.1 | exact h15.1 | assumption | omega) ?_
    rw [o1]
    refine jcallV hF (c_X11_pageAt hG hK hR (mem 88 c) (by exact tg) (by assumption) (by omega)) MW_X11_pageAt 12 (by decide) (by exact hK.k3) wd_851 wd_853 wd_p24 (by decide +kernel) [] rfl rfl (by decide) (Nat.le_of_ble_eq_true rfl) (by decide) (kR (fun v_3 h_4 => ?_))
    have hv := h_4
    refine jblk hF [(.astore_n 3, 1), (.aload_n 3, 1)] (by decide +kernel) (pc' := 41) (lo' := [(3, (2, v_3)), (2, (2, cc)), (0, (2, 3)), (1, (0, c))]) (st' := [(2, v_3)]) rfl ?_
    refine jnonnull hF (off := 5) 46 (by decide +kernel) (by decide) (fun h_5 => ?_) (fun h_5 => ?_)
    · obtain ⟨hpg, hpo⟩ := hv.1 (by omega)
      have hgn := hpo.nm
      have hn2 := hgn.2.2.1
      have hkp := hpo.at
      have hpb := hpo.pb
      have h15 := hpo.r8 (k := 15) (by decide)
      refine jblk hF [(.iconst 0, 1), (.istore 4, 2), (.iconst 0, 1), (.istore 5, 2)] (by decide +kernel) (pc' := 52) (lo' := [(5, (0, 0)), (4, (0, 0)), (3, (2, v_3)), (2, (2, cc)), (0, (2, 3)), (1, (0, c))]) (st' := []) rfl ?_
      have L_7 : ∀ (fu_8 : Nat) (k : Int) (n : Int), (0 ≤ n ∧ n ≤ mem 47 (mem 88 c)) → (k = erN mem c (mem 88 c) n.toNat) →  (mem 47 (mem 88 c) - n).toNat < fu_8 → J z g 6 0 0 (QM z g 0 0 (pV (0, if isCp mem c then erN mem c (mem 88 c) (mem 47 (mem 88 c)).toNat else -1) kd ln mem sz)) 52 [(0, (2, 3)), (1, (0, c)), (2, (2, cc)), (3, (2, v_3)), (4, (0, k)), (5, (0, n))] [] kd ln mem sz := by
        intro fu_8
        induction fu_8 with
        | zero => intro k n _ _ hm; omega
        | succ fu_8 ih_6 =>
          intro k n hi hc hm
          have hcb := erN_bd mem c (mem 88 c) n.toNat
          refine jblk hF [(.iload 5, 2), (.aload_n 3, 1)] (by decide +kernel) (pc' := 55) (lo' := [(0, (2, 3)), (1, (0, c)), (2, (2, cc)), (3, (2, v_3)), (4, (0, k)), (5, (0, n))]) (st' := [(2, v_3), (0, n)]) rfl ?_
          refine jget hF 4 2 0 2 rfl (by decide) (by decide) rfl wd_697 (by decide +kernel) (by first | exact hk | exact hkr | exact hkp.1 | exact h15.1 | assumption | omega) ?_
          refine jicmp_ge hF (off := 30) 88 (by decide +kernel) (by decide) (by omega) (by omega) (fun h_9 => ?_) (fun h_9 => ?_)
          · refine jblk hF [(.iload 4, 2)] (by decide +kernel) (pc' := 90) (lo' := [(0, (2, 3)), (1, (0, c)), (2, (2, cc)), (3, (2, v_3)), (4, (0, k)), (5, (0, n))]) (st' := [(0, k)]) rfl ?_
            refine jiret hF hr (by decide +kernel) ?_
            exact lV (by (rw [if_pos (by omega), hc, show n = mem 47 (mem 88 c) by omega]))
          · refine jblk hF [(.aload_n 2, 1)] (by decide +kernel) (pc' := 62) (lo' := [(0, (2, 3)), (1, (0, c)), (2, (2, cc)), (3, (2, v_3)), (4, (0, k)), (5, (0, n))]) (st' := [(2, cc)]) rfl ?_
            refine jget hF 10 1 2 1 rfl (by decide) (by decide) rfl wd_1173 (by decide +kernel) (by first | exact hk | exact hkr | exact hkp.1 | exact h15.1 | assumption | omega) ?_
            refine jblk hF [(.iload 5, 2)] (by decide +kernel) (pc' := 67) (lo' := [(0, (2, 3)), (1, (0, c)), (2, (2, cc)), (3, (2, v_3)), (4, (0, k)), (5, (0, n))]) (st' := [(0, n), (2, mem cc 1)]) rfl ?_
            refine jlald hF (by decide +kernel) (by first | exact hk | exact hkr | exact hkp.1 | exact h15.1 | assumption | omega) (by omega) (by omega) ?_
            refine jblk hF [(.aload_n 3, 1)] (by decide +kernel) (pc' := 69) (lo' := [(0, (2, 3)), (1, (0, c)), (2, (2, cc)), (3, (2, v_3)), (4, (0, k)), (5, (0, n))]) (st' := [(2, v_3), (1, mem (mem cc 1) n)]) rfl ?_
            refine jget hF 4 15 2 15 rfl (by decide) (by decide) rfl wd_724 (by decide +kernel) (by first | exact hk | exact hkr | exact hkp.1 | exact h15.1 | assumption | omega) ?_
            refine jblk hF [(.iload 5, 2)] (by decide +kernel) (pc' := 74) (lo' := [(0, (2, 3)), (1, (0, c)), (2, (2, cc)), (3, (2, v_3)), (4, (0, k)), (5, (0, n))]) (st' := [(0, n), (2, mem v_3 15), (1, mem (mem cc 1) n)]) rfl ?_
            refine jlald hF (by decide +kernel) (by first | exact hk | exact hkr | exact hkp.1 | exact h15.1 | assumption | omega) (by omega) (by omega) ?_
            have hr1 := o3 n (by omega) (by omega)
            have hr2 := (hpo.2.1.2.2.1 n (by omega) (by omega)).2.2.2.2.2.2.2.1
            rw [hr1, hr2]
            refine jlcmpW_eq hF (off := 6) 82 (by decide +kernel) (by decide +kernel) (by decide) (fun h_10 => ?_) (fun h_10 => ?_)
            · refine jblk hF [(.iinc 5 1, 3)] (by decide +kernel) (pc' := 85) (lo' := [(5, (0, n + 1)), (0, (2, 3)), (1, (0, c)), (2, (2, cc)), (3, (2, v_3)), (4, (0, k))]) (st' := []) rfl ?_
              refine jgoto hF (off := (-33)) 52 (by decide +kernel) (by decide) ?_
              refine jsub [1, 2, 3, 4, 5, 0] rfl ?_
              refine ih_6 k (n + 1) ?_ ?_ ?_
              · omega
              · (rw [erN_s (by omega)]; first | (rw [if_pos (by assumption)]; omega) | (rw [if_neg (by assumption)]; omega))
              · omega
            · refine jblk hF [(.iinc 4 1, 3), (.iinc 5 1, 3)] (by decide +kernel) (pc' := 85) (lo' := [(5, (0, n + 1)), (4, (0, k + 1)), (0, (2, 3)), (1, (0, c)), (2, (2, cc)), (3, (2, v_3))]) (st' := []) rfl ?_
              refine jgoto hF (off := (-33)) 52 (by decide +kernel) (by decide) ?_
              refine jsub [2, 3, 4, 5, 1, 0] rfl ?_
              refine ih_6 (k + 1) (n + 1) ?_ ?_ ?_
              · omega
              · (rw [erN_s (by omega)]; first | (rw [if_pos (by assumption)]; omega) | (rw [if_neg (by assumption)]; omega))
              · omega
      refine jsub [4, 5, 3, 2, 1, 0] rfl ?_
      refine L_7 _ 0 0 ?_ ?_ (Nat.lt_succ_self _)
      · omega
      · rfl
    · exfalso; have := (hv.2 (by omega)).1; omega
  · refine jif_ne hF (off := 5) 19 (by decide +kernel) (by decide) (by decide) (fun h => absurd h (by decide)) (fun _ => ?_)
    refine jblk hF [(.iconst (-1), 1)] (by decide +kernel) (pc' := 18) (lo' := [(0, (2, 3)), (1, (0, c))]) (st' := [(0, (-1))]) rfl ?_
    refine jiret hF hr (by decide +kernel) ?_
    exact lV (by exact (if_neg (by omega)).symm)
end
