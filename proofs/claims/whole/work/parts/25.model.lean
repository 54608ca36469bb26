section
theorem adN_s {mem : Int → Int → Int} {p q s i : Int} (h : 0 ≤ s) : adN mem p q (s + 1).toNat i = adN mem p q s.toNat i + (if mem 63 s = p ∧ cntS mem s q ∧ 5 * mem 64 s + slotV (mem 65 s) = i then mem 66 s else 0) := by
  rw [show (s + 1).toNat = s.toNat + 1 by omega, adN, show ((s.toNat : Nat) : Int) = s by omega]
set_option maxHeartbeats 4000000 in
set_option maxRecDepth 100000 in
theorem c_X12_isPage {l : Launch} {g : GP} (hG : GH g) {kd : Int → Nat} {ln : Int → Int} {mem : Int → Int → Int} {sz : Nat} (hS : SK kd ln) (hR : SR mem) (p : Int) (h_p : InI p) (hPg : 0 ≤ mem 35 33 ∧ mem 35 33 ≤ 12) : MT l g yX12_isPage cX12_isPage 2 (some .boolean) 1 0 0 [(2, 35), (0, p)] kd ln mem sz (pB (isPg mem p) kd ln mem sz) := by
  refine MT_of hG (by decide +kernel) (Nat.le_of_ble_eq_true rfl) (fun z hF hr hn => ?_)
  refine jblk hF [(.iload_n 1, 1), (.iconst 0, 1), (.aload_n 0, 1)] (by decide +kernel) (pc' := 3) (lo' := [(0, (2, 35)), (1, (0, p))]) (st' := [(2, 35), (0, 0), (0, p)]) rfl ?_
  refine jget hF 13 33 0 33 rfl (by decide) (by decide) rfl wd_1496 (by decide +kernel) (by exact hS.k35) ?_
  refine jblk hF [(.iconst 1, 1), (.isub, 1)] (by decide +kernel) (pc' := 8) (lo' := [(0, (2, 35)), (1, (0, p))]) (st' := [(0, (mem 35 33) - 1), (0, 0), (0, p)]) rfl ?_
  refine jcallS hF (c_X12_in hG p 0 ((mem 35 33) - 1) (by omega) (by decide) (by omega)) MW_X12_in wd_1743 wd_1744 (by decide +kernel) [] rfl rfl (by decide) (Nat.le_of_ble_eq_true rfl) (by decide) (kB (fun h_1 => ?_) (fun h_1 => ?_))
  · refine jzret hF hr (by omega) (by decide +kernel) ?_
    exact lB1 (by omega)
  · refine jzret hF hr (by omega) (by decide +kernel) ?_
    exact lB0 (by omega)
set_option maxHeartbeats 4000000 in
set_option maxRecDepth 100000 in
theorem c_X12_isLine {l : Launch} {g : GP} (hG : GH g) {kd : Int → Nat} {ln : Int → Int} {mem : Int → Int → Int} {sz : Nat} (hS : SK kd ln) (hR : SR mem) (p n : Int) (h_p : InI p) (h_n : InI n) (hPS : PGS mem) : MT l g yX12_isLine cX12_isLine 3 (some .boolean) 2 0 0 [(2, 35), (0, p), (0, n)] kd ln mem sz (pB (isLn mem p n) kd ln mem sz) := by
  refine MT_of hG (by decide +kernel) (Nat.le_of_ble_eq_true rfl) (fun z hF hr hn => ?_)
  refine jblk hF [(.aload_n 0, 1), (.iload_n 1, 1)] (by decide +kernel) (pc' := 2) (lo' := [(0, (2, 35)), (1, (0, p)), (2, (0, n))]) (st' := [(0, p), (2, 35)]) rfl ?_
  refine jcallV hF (c_X12_isPage hG hS hR p (by omega) (by omega)) MW_X12_isPage 13 (by decide) (by exact hS.k35) wd_1930 wd_1932 wd_p71 (by decide +kernel) [] rfl rfl (by decide) (Nat.le_of_ble_eq_true rfl) (by decide) (kB (fun h_1 => ?_) (fun h_1 => ?_))
  · refine jif_eq hF (off := 23) 28 (by decide +kernel) (by decide) (by decide) (fun h => absurd h (by decide)) (fun _ => ?_)
    have hp := hPS.2.2 p (by omega) (by omega)
    refine jblk hF [(.iload_n 2, 1), (.iconst 0, 1), (.aload_n 0, 1)] (by decide +kernel) (pc' := 11) (lo' := [(0, (2, 35)), (1, (0, p)), (2, (0, n))]) (st' := [(2, 35), (0, 0), (0, n)]) rfl ?_
    refine jget hF 13 22 2 22 rfl (by decide) (by decide) rfl wd_1485 (by decide +kernel) (by exact hS.k35) ?_
    rw [SR.r22 hR]
    refine jblk hF [(.iload_n 1, 1)] (by decide +kernel) (pc' := 15) (lo' := [(0, (2, 35)), (1, (0, p)), (2, (0, n))]) (st' := [(0, p), (2, 47), (0, 0), (0, n)]) rfl ?_
    refine jiald hF (by decide +kernel) (by exact hS.k47) (by omega) (by have := hS.l47; omega) ?_
    refine jblk hF [(.iconst 1, 1), (.isub, 1)] (by decide +kernel) (pc' := 18) (lo' := [(0, (2, 35)), (1, (0, p)), (2, (0, n))]) (st' := [(0, (mem 47 p) - 1), (0, 0), (0, n)]) rfl ?_
    refine jcallS hF (c_X12_in hG n 0 ((mem 47 p) - 1) (by omega) (by decide) (by omega)) MW_X12_in wd_1743 wd_1744 (by decide +kernel) [] rfl rfl (by decide) (Nat.le_of_ble_eq_true rfl) (by decide) (kB (fun h_3 => ?_) (fun h_3 => ?_))
    · refine jif_eq hF (off := 7) 28 (by decide +kernel) (by decide) (by decide) (fun h => absurd h (by decide)) (fun _ => ?_)
      refine jblk hF [(.iconst 1, 1)] (by decide +kernel) (pc' := 25) (lo' := [(0, (2, 35)), (1, (0, p)), (2, (0, n))]) (st' := [(0, 1)]) rfl ?_
      refine jgoto hF (off := 4) 29 (by decide +kernel) (by decide) ?_
      refine jzret hF hr (by omega) (by decide +kernel) ?_
      exact lB1 (by omega)
    · refine jif_eq hF (off := 7) 28 (by decide +kernel) (by decide) (by decide) (fun _ => ?_) (fun h => absurd h (by decide))
      refine jblk hF [(.iconst 0, 1)] (by decide +kernel) (pc' := 29) (lo' := [(0, (2, 35)), (1, (0, p)), (2, (0, n))]) (st' := [(0, 0)]) rfl ?_
      refine jzret hF hr (by omega) (by decide +kernel) ?_
      exact lB0 (by omega)
  · refine jif_eq hF (off := 23) 28 (by decide +kernel) (by decide) (by decide) (fun _ => ?_) (fun h => absurd h (by decide))
    refine jblk hF [(.iconst 0, 1)] (by decide +kernel) (pc' := 29) (lo' := [(0, (2, 35)), (1, (0, p)), (2, (0, n))]) (st' := [(0, 0)]) rfl ?_
    refine jzret hF hr (by omega) (by decide +kernel) ?_
    exact lB0 (by omega)
set_option maxHeartbeats 4000000 in
set_option maxRecDepth 100000 in
theorem c_X12_placeOf {l : Launch} {g : GP} (hG : GH g) {kd : Int → Nat} {ln : Int → Int} {mem : Int → Int → Int} {sz : Nat} (hS : SK kd ln) (hR : SR mem) (p n : Int) (hp : PG mem p) (hn1 : 0 ≤ n ∧ n ≤ 39) : MT l g yX12_placeOf cX12_placeOf 3 (some .int) 0 0 0 [(2, 35), (0, p), (0, n)] kd ln mem sz (pV (0, n % mem 52 p) kd ln mem sz) := by
  refine MT_of hG (by decide +kernel) (Nat.le_of_ble_eq_true rfl) (fun z hF hr hn => ?_)
  refine jblk hF [(.iload_n 2, 1), (.aload_n 0, 1)] (by decide +kernel) (pc' := 2) (lo' := [(0, (2, 35)), (1, (0, p)), (2, (0, n))]) (st' := [(2, 35), (0, n)]) rfl ?_
  refine jget hF 13 27 2 27 rfl (by decide) (by decide) rfl wd_1490 (by decide +kernel) (by exact hS.k35) ?_
  rw [SR.r27 hR]
  refine jblk hF [(.iload_n 1, 1)] (by decide +kernel) (pc' := 6) (lo' := [(0, (2, 35)), (1, (0, p)), (2, (0, n))]) (st' := [(0, p), (2, 52), (0, n)]) rfl ?_
  refine jiald hF (by decide +kernel) (by exact hS.k52) (by omega) (by have := hS.l52; omega) ?_
  refine jiremN hF (by decide +kernel) (by omega) (by omega) ?_
  refine jiret hF hr (by decide +kernel) ?_
  exact lV (by rfl)
set_option maxHeartbeats 4000000 in
set_option maxRecDepth 100000 in
theorem c_X12_isMade {l : Launch} {g : GP} (hG : GH g) {kd : Int → Nat} {ln : Int → Int} {mem : Int → Int → Int} {sz : Nat} (hS : SK kd ln) (hR : SR mem) (p n : Int) (hp : PG mem p) (hn1 : 0 ≤ n ∧ n ≤ 39) : MT l g yX12_isMade cX12_isMade 3 (some .boolean) 1 0 0 [(2, 35), (0, p), (0, n)] kd ln mem sz (pB (n % mem 52 p > mem 49 p) kd ln mem sz) := by
  refine MT_of hG (by decide +kernel) (Nat.le_of_ble_eq_true rfl) (fun z hF hr hn => ?_)
  refine jblk hF [(.aload_n 0, 1), (.iload_n 1, 1), (.iload_n 2, 1)] (by decide +kernel) (pc' := 3) (lo' := [(0, (2, 35)), (1, (0, p)), (2, (0, n))]) (st' := [(0, n), (0, p), (2, 35)]) rfl ?_
  refine jcallV hF (c_X12_placeOf hG hS hR p n (by first | omega | exact hE.fPG hp | exact (EQ36.f _ _).fPG hp) (by omega)) MW_X12_placeOf 13 (by decide) (by exact hS.k35) wd_1946 wd_1948 wd_p75 (by decide +kernel) [] rfl rfl (by decide) (Nat.le_of_ble_eq_true rfl) (by decide) (kV ?_)
  have hf_1 := emod_bd (n) (mem 52 p) (by omega) (by omega)
  refine jblk hF [(.aload_n 0, 1)] (by decide +kernel) (pc' := 7) (lo' := [(0, (2, 35)), (1, (0, p)), (2, (0, n))]) (st' := [(2, 35), (0, n % mem 52 p)]) rfl ?_
  refine jget hF 13 24 2 24 rfl (by decide) (by decide) rfl wd_1487 (by decide +kernel) (by exact hS.k35) ?_
  rw [SR.r24 hR]
  refine jblk hF [(.iload_n 1, 1)] (by decide +kernel) (pc' := 11) (lo' := [(0, (2, 35)), (1, (0, p)), (2, (0, n))]) (st' := [(0, p), (2, 49), (0, n % mem 52 p)]) rfl ?_
  refine jiald hF (by decide +kernel) (by exact hS.k49) (by omega) (by have := hS.l49; omega) ?_
  refine jicmp_le hF (off := 7) 19 (by decide +kernel) (by decide) (by omega) (by omega) (fun h_2 => ?_) (fun h_2 => ?_)
  · refine jblk hF [(.iconst 0, 1)] (by decide +kernel) (pc' := 20) (lo' := [(0, (2, 35)), (1, (0, p)), (2, (0, n))]) (st' := [(0, 0)]) rfl ?_
    refine jzret hF hr (by omega) (by decide +kernel) ?_
    exact lB0 (by omega)
  · refine jblk hF [(.iconst 1, 1)] (by decide +kernel) (pc' := 16) (lo' := [(0, (2, 35)), (1, (0, p)), (2, (0, n))]) (st' := [(0, 1)]) rfl ?_
    refine jgoto hF (off := 4) 20 (by decide +kernel) (by decide) ?_
    refine jzret hF hr (by omega) (by decide +kernel) ?_
    exact lB1 (by omega)
set_option maxHeartbeats 4000000 in
set_option maxRecDepth 100000 in
theorem c_X12_xOf {l : Launch} {g : GP} (hG : GH g) {kd : Int → Nat} {ln : Int → Int} {mem : Int → Int → Int} {sz : Nat} (hS : SK kd ln) (hR : SR mem) (p n : Int) (hp : PG mem p) (hn1 : 0 ≤ n ∧ n ≤ 39) : MT l g yX12_xOf cX12_xOf 3 (some .int) 0 0 0 [(2, 35), (0, p), (0, n)] kd ln mem sz (pV (0, mem 46 p + n * mem 48 p) kd ln mem sz) := by
  refine MT_of hG (by decide +kernel) (Nat.le_of_ble_eq_true rfl) (fun z hF hr hn => ?_)
  refine jblk hF [(.aload_n 0, 1)] (by decide +kernel) (pc' := 1) (lo' := [(0, (2, 35)), (1, (0, p)), (2, (0, n))]) (st' := [(2, 35)]) rfl ?_
  refine jget hF 13 21 2 21 rfl (by decide) (by decide) rfl wd_1484 (by decide +kernel) (by exact hS.k35) ?_
  rw [SR.r21 hR]
  refine jblk hF [(.iload_n 1, 1)] (by decide +kernel) (pc' := 5) (lo' := [(0, (2, 35)), (1, (0, p)), (2, (0, n))]) (st' := [(0, p), (2, 46)]) rfl ?_
  refine jiald hF (by decide +kernel) (by exact hS.k46) (by omega) (by have := hS.l46; omega) ?_
  refine jblk hF [(.iload_n 2, 1), (.aload_n 0, 1)] (by decide +kernel) (pc' := 8) (lo' := [(0, (2, 35)), (1, (0, p)), (2, (0, n))]) (st' := [(2, 35), (0, n), (0, mem 46 p)]) rfl ?_
  refine jget hF 13 23 2 23 rfl (by decide) (by decide) rfl wd_1486 (by decide +kernel) (by exact hS.k35) ?_
  rw [SR.r23 hR]
  refine jblk hF [(.iload_n 1, 1)] (by decide +kernel) (pc' := 12) (lo' := [(0, (2, 35)), (1, (0, p)), (2, (0, n))]) (st' := [(0, p), (2, 48), (0, n), (0, mem 46 p)]) rfl ?_
  refine jiald hF (by decide +kernel) (by exact hS.k48) (by omega) (by have := hS.l48; omega) ?_
  refine jblk hF [(.imul, 1), (.iadd, 1)] (by decide +kernel) (pc' := 15) (lo' := [(0, (2, 35)), (1, (0, p)), (2, (0, n))]) (st' := [(0, (mem 46 p) + (n * (mem 48 p)))]) rfl ?_
  refine jiret hF hr (by decide +kernel) ?_
  exact lV (by rfl)
set_option maxHeartbeats 4000000 in
set_option maxRecDepth 100000 in
theorem c_X12_blocks {l : Launch} {g : GP} (hG : GH g) {kd : Int → Nat} {ln : Int → Int} {mem : Int → Int → Int} {sz : Nat} (hS : SK kd ln) (hR : SR mem) (p : Int) (hp : PG mem p) : MT l g yX12_blocks cX12_blocks 2 (some .int) 0 0 0 [(2, 35), (0, p)] kd ln mem sz (pV (0, (mem 47 p + mem 52 p - 1) / mem 52 p) kd ln mem sz) := by
  refine MT_of hG (by decide +kernel) (Nat.le_of_ble_eq_true rfl) (fun z hF hr hn => ?_)
  refine jblk hF [(.aload_n 0, 1)] (by decide +kernel) (pc' := 1) (lo' := [(0, (2, 35)), (1, (0, p))]) (st' := [(2, 35)]) rfl ?_
  refine jget hF 13 22 2 22 rfl (by decide) (by decide) rfl wd_1485 (by decide +kernel) (by exact hS.k35) ?_
  rw [SR.r22 hR]
  refine jblk hF [(.iload_n 1, 1)] (by decide +kernel) (pc' := 5) (lo' := [(0, (2, 35)), (1, (0, p))]) (st' := [(0, p), (2, 47)]) rfl ?_
  refine jiald hF (by decide +kernel) (by exact hS.k47) (by omega) (by have := hS.l47; omega) ?_
  refine jblk hF [(.aload_n 0, 1)] (by decide +kernel) (pc' := 7) (lo' := [(0, (2, 35)), (1, (0, p))]) (st' := [(2, 35), (0, mem 47 p)]) rfl ?_
  refine jget hF 13 27 2 27 rfl (by decide) (by decide) rfl wd_1490 (by decide +kernel) (by exact hS.k35) ?_
  rw [SR.r27 hR]
  refine jblk hF [(.iload_n 1, 1)] (by decide +kernel) (pc' := 11) (lo' := [(0, (2, 35)), (1, (0, p))]) (st' := [(0, p), (2, 52), (0, mem 47 p)]) rfl ?_
  refine jiald hF (by decide +kernel) (by exact hS.k52) (by omega) (by have := hS.l52; omega) ?_
  refine jblk hF [(.iadd, 1), (.iconst 1, 1), (.isub, 1), (.aload_n 0, 1)] (by decide +kernel) (pc' := 16) (lo' := [(0, (2, 35)), (1, (0, p))]) (st' := [(2, 35), (0, ((mem 47 p) + (mem 52 p)) - 1)]) rfl ?_
  refine jget hF 13 27 2 27 rfl (by decide) (by decide) rfl wd_1490 (by decide +kernel) (by exact hS.k35) ?_
  rw [SR.r27 hR]
  refine jblk hF [(.iload_n 1, 1)] (by decide +kernel) (pc' := 20) (lo' := [(0, (2, 35)), (1, (0, p))]) (st' := [(0, p), (2, 52), (0, ((mem 47 p) + (mem 52 p)) - 1)]) rfl ?_
  refine jiald hF (by decide +kernel) (by exact hS.k52) (by omega) (by have := hS.l52; omega) ?_
  refine jidivN hF (by decide +kernel) (by omega) (by omega) ?_
  refine jiret hF hr (by decide +kernel) ?_
  exact lV (by rfl)
set_option maxHeartbeats 4000000 in
set_option maxRecDepth 100000 in
theorem c_X12_pivots {l : Launch} {g : GP} (hG : GH g) {kd : Int → Nat} {ln : Int → Int} {mem : Int → Int → Int} {sz : Nat} (hS : SK kd ln) (hR : SR mem) (p : Int) (hp : PG mem p) : MT l g yX12_pivots cX12_pivots 4 (some .int) 2 0 0 [(2, 35), (0, p)] kd ln mem sz (pV (0, pivC (mem 52 p) (mem 49 p) (mem 47 p).toNat) kd ln mem sz) := by
  refine MT_of hG (by decide +kernel) (Nat.le_of_ble_eq_true rfl) (fun z hF hr hn => ?_)
  refine jblk hF [(.iconst 0, 1), (.istore_n 2, 1), (.iconst 0, 1), (.istore_n 3, 1)] (by decide +kernel) (pc' := 4) (lo' := [(3, (0, 0)), (2, (0, 0)), (0, (2, 35)), (1, (0, p))]) (st' := []) rfl ?_
  have L_2 : ∀ (fu_3 : Nat) (c : Int) (k : Int), (0 ≤ k ∧ k ≤ mem 47 p) → (c = pivC (mem 52 p) (mem 49 p) k.toNat) →  (mem 47 p - k).toNat < fu_3 → J z g 4 0 0 (QM z g 0 0 (pV (0, pivC (mem 52 p) (mem 49 p) (mem 47 p).toNat) kd ln mem sz)) 4 [(0, (2, 35)), (1, (0, p)), (2, (0, c)), (3, (0, k))] [] kd ln mem sz := by
    intro fu_3
    induction fu_3 with
    | zero => intro c k _ _ hm; omega
    | succ fu_3 ih_1 =>
      intro c k hk hc hm
      have hb := pivC_bd (mem 52 p) (mem 49 p) k.toNat
      refine jblk hF [(.iload_n 3, 1), (.aload_n 0, 1)] (by decide +kernel) (pc' := 6) (lo' := [(0, (2, 35)), (1, (0, p)), (2, (0, c)), (3, (0, k))]) (st' := [(2, 35), (0, k)]) rfl ?_
      refine jget hF 13 22 2 22 rfl (by decide) (by decide) rfl wd_1485 (by decide +kernel) (by exact hS.k35) ?_
      rw [SR.r22 hR]
      refine jblk hF [(.iload_n 1, 1)] (by decide +kernel) (pc' := 10) (lo' := [(0, (2, 35)), (1, (0, p)), (2, (0, c)), (3, (0, k))]) (st' := [(0, p), (2, 47), (0, k)]) rfl ?_
      refine jiald hF (by decide +kernel) (by exact hS.k47) (by omega) (by have := hS.l47; omega) ?_
      refine jicmp_ge hF (off := 26) 37 (by decide +kernel) (by decide) (by omega) (by omega) (fun h_4 => ?_) (fun h_4 => ?_)
      · refine jblk hF [(.iload_n 2, 1)] (by decide +kernel) (pc' := 38) (lo' := [(0, (2, 35)), (1, (0, p)), (2, (0, c)), (3, (0, k))]) (st' := [(0, c)]) rfl ?_
        refine jiret hF hr (by decide +kernel) ?_
        exact lV (by rw [hc]; congr 1; omega)
      · refine jblk hF [(.iload_n 2, 1), (.aload_n 0, 1), (.iload_n 1, 1), (.iload_n 3, 1)] (by decide +kernel) (pc' := 18) (lo' := [(0, (2, 35)), (1, (0, p)), (2, (0, c)), (3, (0, k))]) (st' := [(0, k), (0, p), (2, 35), (0, c)]) rfl ?_
        refine jcallV hF (c_X12_isMade hG hS hR p k (by first | omega | exact hE.fPG hp | exact (EQ36.f _ _).fPG hp) (by omega)) MW_X12_isMade 13 (by decide) (by exact hS.k35) wd_1942 wd_1944 wd_p74 (by decide +kernel) [(0, c)] rfl rfl (by decide) (Nat.le_of_ble_eq_true rfl) (by decide) (kB (fun h_5 => ?_) (fun h_5 => ?_))
        · refine jif_eq hF (off := 7) 28 (by decide +kernel) (by decide) (by decide) (fun h => absurd h (by decide)) (fun _ => ?_)
          refine jblk hF [(.iconst 0, 1)] (by decide +kernel) (pc' := 25) (lo' := [(0, (2, 35)), (1, (0, p)), (2, (0, c)), (3, (0, k))]) (st' := [(0, 0), (0, c)]) rfl ?_
          refine jgoto hF (off := 4) 29 (by decide +kernel) (by decide) ?_
          refine jblk hF [(.iadd, 1), (.istore_n 2, 1), (.iinc 3 1, 3)] (by decide +kernel) (pc' := 34) (lo' := [(3, (0, k + 1)), (2, (0, c + 0)), (0, (2, 35)), (1, (0, p))]) (st' := []) rfl ?_
          refine jgoto hF (off := (-30)) 4 (by decide +kernel) (by decide) ?_
          refine jsub [2, 3, 1, 0] rfl ?_
          refine ih_1 (c + 0) (k + 1) ?_ ?_ ?_
          · omega
          · rw [show (k + 1).toNat = k.toNat + 1 by omega, pivC, show ((k.toNat : Nat) : Int) = k by omega]; split <;> omega
          · omega
        · refine jif_eq hF (off := 7) 28 (by decide +kernel) (by decide) (by decide) (fun _ => ?_) (fun h => absurd h (by decide))
          refine jblk hF [(.iconst 1, 1), (.iadd, 1), (.istore_n 2, 1), (.iinc 3 1, 3)] (by decide +kernel) (pc' := 34) (lo' := [(3, (0, k + 1)), (2, (0, c + 1)), (0, (2, 35)), (1, (0, p))]) (st' := []) rfl ?_
          refine jgoto hF (off := (-30)) 4 (by decide +kernel) (by decide) ?_
          refine jsub [2, 3, 1, 0] rfl ?_
          refine ih_1 (c + 1) (k + 1) ?_ ?_ ?_
          · omega
          · rw [show (k + 1).toNat = k.toNat + 1 by omega, pivC, show ((k.toNat : Nat) : Int) = k by omega]; split <;> omega
          · omega
  refine jsub [2, 3, 1, 0] rfl ?_
  refine L_2 _ 0 0 ?_ ?_ (Nat.lt_succ_self _)
  · omega
  · rfl
set_option maxHeartbeats 4000000 in
set_option maxRecDepth 100000 in
theorem c_X12_paged {l : Launch} {g : GP} (hG : GH g) {kd : Int → Nat} {ln : Int → Int} {mem : Int → Int → Int} {sz : Nat} (hS : SK kd ln) (hR : SR mem) (p w : Int) (h_p : InI p) (h_w : InI w) (hPS : PGS mem) : MT l g yX12_paged cX12_paged 3 (some .int) 3 0 0 [(2, 35), (0, p), (0, w)] kd ln mem sz (pV (0, pagedA mem p w) kd ln mem sz) := by
  refine MT_of hG (by decide +kernel) (Nat.le_of_ble_eq_true rfl) (fun z hF hr hn => ?_)
  refine jblk hF [(.aload_n 0, 1), (.iload_n 1, 1)] (by decide +kernel) (pc' := 2) (lo' := [(0, (2, 35)), (1, (0, p)), (2, (0, w))]) (st' := [(0, p), (2, 35)]) rfl ?_
  refine jcallV hF (c_X12_isPage hG hS hR p (by omega) (by omega)) MW_X12_isPage 13 (by decide) (by exact hS.k35) wd_1930 wd_1932 wd_p71 (by decide +kernel) [] rfl rfl (by decide) (Nat.le_of_ble_eq_true rfl) (by decide) (kB (fun h_1 => ?_) (fun h_1 => ?_))
  · refine jif_ne hF (off := 5) 10 (by decide +kernel) (by decide) (by decide) (fun _ => ?_) (fun h => absurd h (by decide))
    have hp := hPS.2.2 p (by omega) (by omega)
    refine jblk hF [(.iload_n 2, 1)] (by decide +kernel) (pc' := 11) (lo' := [(0, (2, 35)), (1, (0, p)), (2, (0, w))]) (st' := [(0, w)]) rfl ?_
    by_cases h_3 : w = 0
    · refine jtabIn hF (dflt := 121) (lo' := 0) (hi := 9) (offs := #[53, 60, 67, 74, 81, 88, 95, 102, 109, 115]) (len := 53) 0 53 64 (by decide +kernel) h_3 (by decide) (by decide) (by decide) rfl (by decide) ?_
      refine jblk hF [(.aload_n 0, 1)] (by decide +kernel) (pc' := 65) (lo' := [(0, (2, 35)), (1, (0, p)), (2, (0, w))]) (st' := [(2, 35)]) rfl ?_
      refine jget hF 13 20 2 20 rfl (by decide) (by decide) rfl wd_1483 (by decide +kernel) (by exact hS.k35) ?_
      rw [SR.r20 hR]
      refine jblk hF [(.iload_n 1, 1)] (by decide +kernel) (pc' := 69) (lo' := [(0, (2, 35)), (1, (0, p)), (2, (0, w))]) (st' := [(0, p), (2, 45)]) rfl ?_
      refine jiald hF (by decide +kernel) (by exact hS.k45) (by omega) (by have := hS.l45; omega) ?_
      refine jiret hF hr (by decide +kernel) ?_
      exact lV (by unfold pagedA; (repeat' split) <;> first | rfl | omega)
    by_cases h_4 : w = 1
    · refine jtabIn hF (dflt := 121) (lo' := 0) (hi := 9) (offs := #[53, 60, 67, 74, 81, 88, 95, 102, 109, 115]) (len := 53) 1 60 71 (by decide +kernel) h_4 (by decide) (by decide) (by decide) rfl (by decide) ?_
      refine jblk hF [(.aload_n 0, 1)] (by decide +kernel) (pc' := 72) (lo' := [(0, (2, 35)), (1, (0, p)), (2, (0, w))]) (st' := [(2, 35)]) rfl ?_
      refine jget hF 13 22 2 22 rfl (by decide) (by decide) rfl wd_1485 (by decide +kernel) (by exact hS.k35) ?_
      rw [SR.r22 hR]
      refine jblk hF [(.iload_n 1, 1)] (by decide +kernel) (pc' := 76) (lo' := [(0, (2, 35)), (1, (0, p)), (2, (0, w))]) (st' := [(0, p), (2, 47)]) rfl ?_
      refine jiald hF (by decide +kernel) (by exact hS.k47) (by omega) (by have := hS.l47; omega) ?_
      refine jiret hF hr (by decide +kernel) ?_
      exact lV (by unfold pagedA; (repeat' split) <;> first | rfl | omega)
    by_cases h_5 : w = 2
    · refine jtabIn hF (dflt := 121) (lo' := 0) (hi := 9) (offs := #[53, 60, 67, 74, 81, 88, 95, 102, 109, 115]) (len := 53) 2 67 78 (by decide +kernel) h_5 (by decide) (by decide) (by decide) rfl (by decide) ?_
      refine jblk hF [(.aload_n 0, 1)] (by decide +kernel) (pc' := 79) (lo' := [(0, (2, 35)), (1, (0, p)), (2, (0, w))]) (st' := [(2, 35)]) rfl ?_
      refine jget hF 13 23 2 23 rfl (by decide) (by decide) rfl wd_1486 (by decide +kernel) (by exact hS.k35) ?_
      rw [SR.r23 hR]
      refine jblk hF [(.iload_n 1, 1)] (by decide +kernel) (pc' := 83) (lo' := [(0, (2, 35)), (1, (0, p)), (2, (0, w))]) (st' := [(0, p), (2, 48)]) rfl ?_
      refine jiald hF (by decide +kernel) (by exact hS.k48) (by omega) (by have := hS.l48; omega) ?_
      refine jiret hF hr (by decide +kernel) ?_
      exact lV (by unfold pagedA; (repeat' split) <;> first | rfl | omega)
    by_cases h_6 : w = 3
    · refine jtabIn hF (dflt := 121) (lo' := 0) (hi := 9) (offs := #[53, 60, 67, 74, 81, 88, 95, 102, 109, 115]) (len := 53) 3 74 85 (by decide +kernel) h_6 (by decide) (by decide) (by decide) rfl (by decide) ?_
      refine jblk hF [(.aload_n 0, 1)] (by decide +kernel) (pc' := 86) (lo' := [(0, (2, 35)), (1, (0, p)), (2, (0, w))]) (st' := [(2, 35)]) rfl ?_
      refine jget hF 13 24 2 24 rfl (by decide) (by decide) rfl wd_1487 (by decide +kernel) (by exact hS.k35) ?_
      rw [SR.r24 hR]
      refine jblk hF [(.iload_n 1, 1)] (by decide +kernel) (pc' := 90) (lo' := [(0, (2, 35)), (1, (0, p)), (2, (0, w))]) (st' := [(0, p), (2, 49)]) rfl ?_
      refine jiald hF (by decide +kernel) (by exact hS.k49) (by omega) (by have := hS.l49; omega) ?_
      refine jiret hF hr (by decide +kernel) ?_
      exact lV (by unfold pagedA; (repeat' split) <;> first | rfl | omega)
    by_cases h_7 : w = 4
    · refine jtabIn hF (dflt := 121) (lo' := 0) (hi := 9) (offs := #[53, 60, 67, 74, 81, 88, 95, 102, 109, 115]) (len := 53) 4 81 92 (by decide +kernel) h_7 (by decide) (by decide) (by decide) rfl (by decide) ?_
      refine jblk hF [(.aload_n 0, 1)] (by decide +kernel) (pc' := 93) (lo' := [(0, (2, 35)), (1, (0, p)), (2, (0, w))]) (st' := [(2, 35)]) rfl ?_
      refine jget hF 13 25 2 25 rfl (by decide) (by decide) rfl wd_1488 (by decide +kernel) (by exact hS.k35) ?_
      rw [SR.r25 hR]
      refine jblk hF [(.iload_n 1, 1)] (by decide +kernel) (pc' := 97) (lo' := [(0, (2, 35)), (1, (0, p)), (2, (0, w))]) (st' := [(0, p), (2, 50)]) rfl ?_
      refine jiald hF (by decide +kernel) (by exact hS.k50) (by omega) (by have := hS.l50; omega) ?_
      refine jiret hF hr (by decide +kernel) ?_
      exact lV (by unfold pagedA; (repeat' split) <;> first | rfl | omega)
    by_cases h_8 : w = 5
    · refine jtabIn hF (dflt := 121) (lo' := 0) (hi := 9) (offs := #[53, 60, 67, 74, 81, 88, 95, 102, 109, 115]) (len := 53) 5 88 99 (by decide +kernel) h_8 (by decide) (by decide) (by decide) rfl (by decide) ?_
      refine jblk hF [(.aload_n 0, 1)] (by decide +kernel) (pc' := 100) (lo' := [(0, (2, 35)), (1, (0, p)), (2, (0, w))]) (st' := [(2, 35)]) rfl ?_
      refine jget hF 13 26 2 26 rfl (by decide) (by decide) rfl wd_1489 (by decide +kernel) (by exact hS.k35) ?_
      rw [SR.r26 hR]
      refine jblk hF [(.iload_n 1, 1)] (by decide +kernel) (pc' := 104) (lo' := [(0, (2, 35)), (1, (0, p)), (2, (0, w))]) (st' := [(0, p), (2, 51)]) rfl ?_
      refine jiald hF (by decide +kernel) (by exact hS.k51) (by omega) (by have := hS.l51; omega) ?_
      refine jiret hF hr (by decide +kernel) ?_
      exact lV (by unfold pagedA; (repeat' split) <;> first | rfl | omega)
    by_cases h_9 : w = 6
    · refine jtabIn hF (dflt := 121) (lo' := 0) (hi := 9) (offs := #[53, 60, 67, 74, 81, 88, 95, 102, 109, 115]) (len := 53) 6 95 106 (by decide +kernel) h_9 (by decide) (by decide) (by decide) rfl (by decide) ?_
      refine jblk hF [(.aload_n 0, 1)] (by decide +kernel) (pc' := 107) (lo' := [(0, (2, 35)), (1, (0, p)), (2, (0, w))]) (st' := [(2, 35)]) rfl ?_
      refine jget hF 13 27 2 27 rfl (by decide) (by decide) rfl wd_1490 (by decide +kernel) (by exact hS.k35) ?_
      rw [SR.r27 hR]
      refine jblk hF [(.iload_n 1, 1)] (by decide +kernel) (pc' := 111) (lo' := [(0, (2, 35)), (1, (0, p)), (2, (0, w))]) (st' := [(0, p), (2, 52)]) rfl ?_
      refine jiald hF (by decide +kernel) (by exact hS.k52) (by omega) (by have := hS.l52; omega) ?_
      refine jiret hF hr (by decide +kernel) ?_
      exact lV (by unfold pagedA; (repeat' split) <;> first | rfl | omega)
    by_cases h_10 : w = 7
    · refine jtabIn hF (dflt := 121) (lo' := 0) (hi := 9) (offs := #[53, 60, 67, 74, 81, 88, 95, 102, 109, 115]) (len := 53) 7 102 113 (by decide +kernel) h_10 (by decide) (by decide) (by decide) rfl (by decide) ?_
      refine jblk hF [(.aload_n 0, 1)] (by decide +kernel) (pc' := 114) (lo' := [(0, (2, 35)), (1, (0, p)), (2, (0, w))]) (st' := [(2, 35)]) rfl ?_
      refine jget hF 13 28 2 28 rfl (by decide) (by decide) rfl wd_1491 (by decide +kernel) (by exact hS.k35) ?_
      rw [SR.r28 hR]
      refine jblk hF [(.iload_n 1, 1)] (by decide +kernel) (pc' := 118) (lo' := [(0, (2, 35)), (1, (0, p)), (2, (0, w))]) (st' := [(0, p), (2, 53)]) rfl ?_
      refine jiald hF (by decide +kernel) (by exact hS.k53) (by omega) (by have := hS.l53; omega) ?_
      refine jiret hF hr (by decide +kernel) ?_
      exact lV (by unfold pagedA; (repeat' split) <;> first | rfl | omega)
    by_cases h_11 : w = 8
    · refine jtabIn hF (dflt := 121) (lo' := 0) (hi := 9) (offs := #[53, 60, 67, 74, 81, 88, 95, 102, 109, 115]) (len := 53) 8 109 120 (by decide +kernel) h_11 (by decide) (by decide) (by decide) rfl (by decide) ?_
      refine jblk hF [(.aload_n 0, 1), (.iload_n 1, 1)] (by decide +kernel) (pc' := 122) (lo' := [(0, (2, 35)), (1, (0, p)), (2, (0, w))]) (st' := [(0, p), (2, 35)]) rfl ?_
      refine jcallV hF (c_X12_blocks hG hS hR p (by first | omega | exact hE.fPG hp | exact (EQ36.f _ _).fPG hp)) MW_X12_blocks 13 (by decide) (by exact hS.k35) wd_1934 wd_1936 wd_p72 (by decide +kernel) [] rfl rfl (by decide) (Nat.le_of_ble_eq_true rfl) (by decide) (kV ?_)
      refine jiret hF hr (by decide +kernel) ?_
      exact lV (by unfold pagedA; (repeat' split) <;> first | rfl | omega)
    by_cases h_12 : w = 9
    · refine jtabIn hF (dflt := 121) (lo' := 0) (hi := 9) (offs := #[53, 60, 67, 74, 81, 88, 95, 102, 109, 115]) (len := 53) 9 115 126 (by decide +kernel) h_12 (by decide) (by decide) (by decide) rfl (by decide) ?_
      refine jblk hF [(.aload_n 0, 1), (.iload_n 1, 1)] (by decide +kernel) (pc' := 128) (lo' := [(0, (2, 35)), (1, (0, p)), (2, (0, w))]) (st' := [(0, p), (2, 35)]) rfl ?_
      refine jcallV hF (c_X12_pivots hG hS hR p (by first | omega | exact hE.fPG hp | exact (EQ36.f _ _).fPG hp)) MW_X12_pivots 13 (by decide) (by exact hS.k35) wd_1938 wd_1940 wd_p73 (by decide +kernel) [] rfl rfl (by decide) (Nat.le_of_ble_eq_true rfl) (by decide) (kV ?_)
      refine jiret hF hr (by decide +kernel) ?_
      exact lV (by unfold pagedA; (repeat' split) <;> first | rfl | omega)
    refine jtabOut hF (dflt := 121) (lo' := 0) (hi := 9) (offs := #[53, 60, 67, 74, 81, 88, 95, 102, 109, 115]) (len := 53) 132 (by decide +kernel) (by omega) (by omega) (by decide) ?_
    refine jblk hF [(.iconst (-1), 1)] (by decide +kernel) (pc' := 133) (lo' := [(0, (2, 35)), (1, (0, p)), (2, (0, w))]) (st' := [(0, (-1))]) rfl ?_
    refine jiret hF hr (by decide +kernel) ?_
    exact lV (by unfold pagedA; (repeat' split) <;> first | rfl | omega)
  · refine jif_ne hF (off := 5) 10 (by decide +kernel) (by decide) (by decide) (fun h => absurd h (by decide)) (fun _ => ?_)
    refine jblk hF [(.iconst (-1), 1)] (by decide +kernel) (pc' := 9) (lo' := [(0, (2, 35)), (1, (0, p)), (2, (0, w))]) (st' := [(0, (-1))]) rfl ?_
    refine jiret hF hr (by decide +kernel) ?_
    exact lV (by unfold pagedA; (repeat' split) <;> first | rfl | omega)
set_option maxHeartbeats 4000000 in
set_option maxRecDepth 100000 in
theorem c_X12_lined {l : Launch} {g : GP} (hG : GH g) {kd : Int → Nat} {ln : Int → Int} {mem : Int → Int → Int} {sz : Nat} (hS : SK kd ln) (hR : SR mem) (p n w : Int) (h_p : InI p) (h_n : InI n) (h_w : InI w) (hPS : PGS mem) : MT l g yX12_lined cX12_lined 5 (some .int) 3 0 0 [(2, 35), (0, p), (0, n), (0, w)] kd ln mem sz (pV (0, linedA mem p n w) kd ln mem sz) := by
  refine MT_of hG (by decide +kernel) (Nat.le_of_ble_eq_true rfl) (fun z hF hr hn => ?_)
  refine jblk hF [(.aload_n 0, 1), (.iload_n 1, 1), (.iload_n 2, 1)] (by decide +kernel) (pc' := 3) (lo' := [(0, (2, 35)), (1, (0, p)), (2, (0, n)), (3, (0, w))]) (st' := [(0, n), (0, p), (2, 35)]) rfl ?_
  refine jcallV hF (c_X12_isLine hG hS hR p n (by omega) (by omega) (by exact hPS)) MW_X12_isLine 13 (by decide) (by exact hS.k35) wd_1954 wd_1956 wd_p76 (by decide +kernel) [] rfl rfl (by decide) (Nat.le_of_ble_eq_true rfl) (by decide) (kB (fun h_1 => ?_) (fun h_1 => ?_))
  · refine jif_ne hF (off := 5) 11 (by decide +kernel) (by decide) (by decide) (fun _ => ?_) (fun h => absurd h (by decide))
    have hp := hPS.2.2 p (by omega) (by omega)
    refine jblk hF [(.bipush 40, 2), (.iload_n 1, 1), (.imul, 1), (.iload_n 2, 1), (.iadd, 1), (.istore 4, 2), (.iload_n 3, 1)] (by decide +kernel) (pc' := 20) (lo' := [(4, (0, (40 * p) + n)), (0, (2, 35)), (1, (0, p)), (2, (0, n)), (3, (0, w))]) (st' := [(0, w)]) rfl ?_
    by_cases h_3 : w = 0
    · refine jtabIn hF (dflt := 99) (lo' := 0) (hi := 6) (offs := #[44, 51, 60, 67, 75, 83, 91]) (len := 44) 0 44 64 (by decide +kernel) h_3 (by decide) (by decide) (by decide) rfl (by decide) ?_
      refine jblk hF [(.aload_n 0, 1), (.iload_n 1, 1), (.iload_n 2, 1)] (by decide +kernel) (pc' := 67) (lo' := [(4, (0, (40 * p) + n)), (0, (2, 35)), (1, (0, p)), (2, (0, n)), (3, (0, w))]) (st' := [(0, n), (0, p), (2, 35)]) rfl ?_
      refine jcallV hF (c_X12_xOf hG hS hR p n (by first | omega | exact hE.fPG hp | exact (EQ36.f _ _).fPG hp) (by omega)) MW_X12_xOf 13 (by decide) (by exact hS.k35) wd_1958 wd_1960 wd_p77 (by decide +kernel) [] rfl rfl (by decide) (Nat.le_of_ble_eq_true rfl) (by decide) (kV ?_)
      refine jiret hF hr (by decide +kernel) ?_
      exact lV (by unfold linedA; (repeat' split) <;> first | rfl | omega)
    by_cases h_4 : w = 1
    · refine jtabIn hF (dflt := 99) (lo' := 0) (hi := 6) (offs := #[44, 51, 60, 67, 75, 83, 91]) (len := 44) 1 51 71 (by decide +kernel) h_4 (by decide) (by decide) (by decide) rfl (by decide) ?_
      refine jblk hF [(.iload_n 2, 1), (.aload_n 0, 1)] (by decide +kernel) (pc' := 73) (lo' := [(4, (0, (40 * p) + n)), (0, (2, 35)), (1, (0, p)), (2, (0, n)), (3, (0, w))]) (st' := [(2, 35), (0, n)]) rfl ?_
      refine jget hF 13 27 2 27 rfl (by decide) (by decide) rfl wd_1490 (by decide +kernel) (by exact hS.k35) ?_
      rw [SR.r27 hR]
      refine jblk hF [(.iload_n 1, 1)] (by decide +kernel) (pc' := 77) (lo' := [(4, (0, (40 * p) + n)), (0, (2, 35)), (1, (0, p)), (2, (0, n)), (3, (0, w))]) (st' := [(0, p), (2, 52), (0, n)]) rfl ?_
      refine jiald hF (by decide +kernel) (by exact hS.k52) (by omega) (by have := hS.l52; omega) ?_
      refine jidivN hF (by decide +kernel) (by omega) (by omega) ?_
      refine jiret hF hr (by decide +kernel) ?_
      exact lV (by unfold linedA; (repeat' split) <;> first | rfl | omega)
    by_cases h_5 : w = 2
    · refine jtabIn hF (dflt := 99) (lo' := 0) (hi := 6) (offs := #[44, 51, 60, 67, 75, 83, 91]) (len := 44) 2 60 80 (by decide +kernel) h_5 (by decide) (by decide) (by decide) rfl (by decide) ?_
      refine jblk hF [(.aload_n 0, 1), (.iload_n 1, 1), (.iload_n 2, 1)] (by decide +kernel) (pc' := 83) (lo' := [(4, (0, (40 * p) + n)), (0, (2, 35)), (1, (0, p)), (2, (0, n)), (3, (0, w))]) (st' := [(0, n), (0, p), (2, 35)]) rfl ?_
      refine jcallV hF (c_X12_placeOf hG hS hR p n (by first | omega | exact hE.fPG hp | exact (EQ36.f _ _).fPG hp) (by omega)) MW_X12_placeOf 13 (by decide) (by exact hS.k35) wd_1946 wd_1948 wd_p75 (by decide +kernel) [] rfl rfl (by decide) (Nat.le_of_ble_eq_true rfl) (by decide) (kV ?_)
      have hf_6 := emod_bd (n) (mem 52 p) (by omega) (by omega)
      refine jiret hF hr (by decide +kernel) ?_
      exact lV (by unfold linedA; (repeat' split) <;> first | rfl | omega)
    by_cases h_7 : w = 3
    · refine jtabIn hF (dflt := 99) (lo' := 0) (hi := 6) (offs := #[44, 51, 60, 67, 75, 83, 91]) (len := 44) 3 67 87 (by decide +kernel) h_7 (by decide) (by decide) (by decide) rfl (by decide) ?_
      refine jblk hF [(.aload_n 0, 1)] (by decide +kernel) (pc' := 88) (lo' := [(4, (0, (40 * p) + n)), (0, (2, 35)), (1, (0, p)), (2, (0, n)), (3, (0, w))]) (st' := [(2, 35)]) rfl ?_
      refine jget hF 13 29 2 29 rfl (by decide) (by decide) rfl wd_1492 (by decide +kernel) (by exact hS.k35) ?_
      rw [SR.r29 hR]
      refine jblk hF [(.iload 4, 2)] (by decide +kernel) (pc' := 93) (lo' := [(4, (0, (40 * p) + n)), (0, (2, 35)), (1, (0, p)), (2, (0, n)), (3, (0, w))]) (st' := [(0, (40 * p) + n), (2, 54)]) rfl ?_
      refine jiald hF (by decide +kernel) (by exact hS.k54) (by omega) (by have := hS.l54; omega) ?_
      refine jiret hF hr (by decide +kernel) ?_
      exact lV (by unfold linedA; (repeat' split) <;> first | rfl | omega)
    by_cases h_8 : w = 4
    · refine jtabIn hF (dflt := 99) (lo' := 0) (hi := 6) (offs := #[44, 51, 60, 67, 75, 83, 91]) (len := 44) 4 75 95 (by decide +kernel) h_8 (by decide) (by decide) (by decide) rfl (by decide) ?_
      refine jblk hF [(.aload_n 0, 1)] (by decide +kernel) (pc' := 96) (lo' := [(4, (0, (40 * p) + n)), (0, (2, 35)), (1, (0, p)), (2, (0, n)), (3, (0, w))]) (st' := [(2, 35)]) rfl ?_
      refine jget hF 13 30 2 30 rfl (by decide) (by decide) rfl wd_1493 (by decide +kernel) (by exact hS.k35) ?_
      rw [SR.r30 hR]
      refine jblk hF [(.iload 4, 2)] (by decide +kernel) (pc' := 101) (lo' := [(4, (0, (40 * p) + n)), (0, (2, 35)), (1, (0, p)), (2, (0, n)), (3, (0, w))]) (st' := [(0, (40 * p) + n), (2, 55)]) rfl ?_
      refine jiald hF (by decide +kernel) (by exact hS.k55) (by omega) (by have := hS.l55; omega) ?_
      refine jiret hF hr (by decide +kernel) ?_
      exact lV (by unfold linedA; (repeat' split) <;> first | rfl | omega)
    by_cases h_9 : w = 5
    · refine jtabIn hF (dflt := 99) (lo' := 0) (hi := 6) (offs := #[44, 51, 60, 67, 75, 83, 91]) (len := 44) 5 83 103 (by decide +kernel) h_9 (by decide) (by decide) (by decide) rfl (by decide) ?_
      refine jblk hF [(.aload_n 0, 1)] (by decide +kernel) (pc' := 104) (lo' := [(4, (0, (40 * p) + n)), (0, (2, 35)), (1, (0, p)), (2, (0, n)), (3, (0, w))]) (st' := [(2, 35)]) rfl ?_
      refine jget hF 13 31 2 31 rfl (by decide) (by decide) rfl wd_1494 (by decide +kernel) (by exact hS.k35) ?_
      rw [SR.r31 hR]
      refine jblk hF [(.iload 4, 2)] (by decide +kernel) (pc' := 109) (lo' := [(4, (0, (40 * p) + n)), (0, (2, 35)), (1, (0, p)), (2, (0, n)), (3, (0, w))]) (st' := [(0, (40 * p) + n), (2, 56)]) rfl ?_
      refine jiald hF (by decide +kernel) (by exact hS.k56) (by omega) (by have := hS.l56; omega) ?_
      refine jiret hF hr (by decide +kernel) ?_
      exact lV (by unfold linedA; (repeat' split) <;> first | rfl | omega)
    by_cases h_10 : w = 6
    · refine jtabIn hF (dflt := 99) (lo' := 0) (hi := 6) (offs := #[44, 51, 60, 67, 75, 83, 91]) (len := 44) 6 91 111 (by decide +kernel) h_10 (by decide) (by decide) (by decide) rfl (by decide) ?_
      refine jblk hF [(.aload_n 0, 1)] (by decide +kernel) (pc' := 112) (lo' := [(4, (0, (40 * p) + n)), (0, (2, 35)), (1, (0, p)), (2, (0, n)), (3, (0, w))]) (st' := [(2, 35)]) rfl ?_
      refine jget hF 13 34 2 34 rfl (by decide) (by decide) rfl wd_1497 (by decide +kernel) (by exact hS.k35) ?_
      rw [SR.r34 hR]
      refine jblk hF [(.iload 4, 2)] (by decide +kernel) (pc' := 117) (lo' := [(4, (0, (40 * p) + n)), (0, (2, 35)), (1, (0, p)), (2, (0, n)), (3, (0, w))]) (st' := [(0, (40 * p) + n), (2, 58)]) rfl ?_
      refine jiald hF (by decide +kernel) (by exact hS.k58) (by omega) (by have := hS.l58; omega) ?_
      refine jiret hF hr (by decide +kernel) ?_
      exact lV (by unfold linedA; (repeat' split) <;> first | rfl | omega)
    refine jtabOut hF (dflt := 99) (lo' := 0) (hi := 6) (offs := #[44, 51, 60, 67, 75, 83, 91]) (len := 44) 119 (by decide +kernel) (by omega) (by omega) (by decide) ?_
    refine jblk hF [(.iconst (-1), 1)] (by decide +kernel) (pc' := 120) (lo' := [(4, (0, (40 * p) + n)), (0, (2, 35)), (1, (0, p)), (2, (0, n)), (3, (0, w))]) (st' := [(0, (-1))]) rfl ?_
    refine jiret hF hr (by decide +kernel) ?_
    exact lV (by unfold linedA; (repeat' split) <;> first | rfl | omega)
  · refine jif_ne hF (off := 5) 11 (by decide +kernel) (by decide) (by decide) (fun h => absurd h (by decide)) (fun _ => ?_)
    refine jblk hF [(.iconst (-1), 1)] (by decide +kernel) (pc' := 10) (lo' := [(0, (2, 35)), (1, (0, p)), (2, (0, n)), (3, (0, w))]) (st' := [(0, (-1))]) rfl ?_
    refine jiret hF hr (by decide +kernel) ?_
    exact lV (by unfold linedA; (repeat' split) <;> first | rfl | omega)
set_option maxHeartbeats 4000000 in
set_option maxRecDepth 100000 in
theorem c_X12_makePage {l : Launch} {g : GP} (hG : GH g) {kd : Int → Nat} {ln : Int → Int} {mem : Int → Int → Int} {sz : Nat} (hS : SK kd ln) (hR : SR mem) (p : Int) (hp : PG mem p) : MT l g yX12_makePage cX12_makePage 2 none 4 0 0 [(2, 35), (0, p)] kd ln mem sz (pMV (fun mem' => SR mem' ∧ (MK mem mem' (nearP mem p) (mem 49 p) (mem 52 p) (mem 47 p))) kd ln sz) := by
  refine MT_of hG (by decide +kernel) (Nat.le_of_ble_eq_true rfl) (fun z hF hr hn => ?_)
  refine jblk hF [(.aload_n 0, 1), (.aload_n 0, 1)] (by decide +kernel) (pc' := 2) (lo' := [(0, (2, 35)), (1, (0, p))]) (st' := [(2, 35), (2, 35)]) rfl ?_
  refine jget hF 13 20 2 20 rfl (by decide) (by decide) rfl wd_1483 (by decide +kernel) (by exact hS.k35) ?_
  rw [SR.r20 hR]
  refine jblk hF [(.iload_n 1, 1)] (by decide +kernel) (pc' := 6) (lo' := [(0, (2, 35)), (1, (0, p))]) (st' := [(0, p), (2, 45), (2, 35)]) rfl ?_
  refine jiald hF (by decide +kernel) (by exact hS.k45) (by omega) (by have := hS.l45; omega) ?_
  refine jblk hF [(.aload_n 0, 1)] (by decide +kernel) (pc' := 8) (lo' := [(0, (2, 35)), (1, (0, p))]) (st' := [(2, 35), (0, mem 45 p), (2, 35)]) rfl ?_
  refine jget hF 13 21 2 21 rfl (by decide) (by decide) rfl wd_1484 (by decide +kernel) (by exact hS.k35) ?_
  rw [SR.r21 hR]
  refine jblk hF [(.iload_n 1, 1)] (by decide +kernel) (pc' := 12) (lo' := [(0, (2, 35)), (1, (0, p))]) (st' := [(0, p), (2, 46), (0, mem 45 p), (2, 35)]) rfl ?_
  refine jiald hF (by decide +kernel) (by exact hS.k46) (by omega) (by have := hS.l46; omega) ?_
  refine jblk hF [(.aload_n 0, 1)] (by decide +kernel) (pc' := 14) (lo' := [(0, (2, 35)), (1, (0, p))]) (st' := [(2, 35), (0, mem 46 p), (0, mem 45 p), (2, 35)]) rfl ?_
  refine jget hF 13 23 2 23 rfl (by decide) (by decide) rfl wd_1486 (by decide +kernel) (by exact hS.k35) ?_
  rw [SR.r23 hR]
  refine jblk hF [(.iload_n 1, 1)] (by decide +kernel) (pc' := 18) (lo' := [(0, (2, 35)), (1, (0, p))]) (st' := [(0, p), (2, 48), (0, mem 46 p), (0, mem 45 p), (2, 35)]) rfl ?_
  refine jiald hF (by decide +kernel) (by exact hS.k48) (by omega) (by have := hS.l48; omega) ?_
  refine jblk hF [(.aload_n 0, 1)] (by decide +kernel) (pc' := 20) (lo' := [(0, (2, 35)), (1, (0, p))]) (st' := [(2, 35), (0, mem 48 p), (0, mem 46 p), (0, mem 45 p), (2, 35)]) rfl ?_
  refine jget hF 13 22 2 22 rfl (by decide) (by decide) rfl wd_1485 (by decide +kernel) (by exact hS.k35) ?_
  rw [SR.r22 hR]
  refine jblk hF [(.iload_n 1, 1)] (by decide +kernel) (pc' := 24) (lo' := [(0, (2, 35)), (1, (0, p))]) (st' := [(0, p), (2, 47), (0, mem 48 p), (0, mem 46 p), (0, mem 45 p), (2, 35)]) rfl ?_
  refine jiald hF (by decide +kernel) (by exact hS.k47) (by omega) (by have := hS.l47; omega) ?_
  refine jblk hF [(.aload_n 0, 1)] (by decide +kernel) (pc' := 26) (lo' := [(0, (2, 35)), (1, (0, p))]) (st' := [(2, 35), (0, mem 47 p), (0, mem 48 p), (0, mem 46 p), (0, mem 45 p), (2, 35)]) rfl ?_
  refine jget hF 13 24 2 24 rfl (by decide) (by decide) rfl wd_1487 (by decide +kernel) (by exact hS.k35) ?_
  rw [SR.r24 hR]
  refine jblk hF [(.iload_n 1, 1)] (by decide +kernel) (pc' := 30) (lo' := [(0, (2, 35)), (1, (0, p))]) (st' := [(0, p), (2, 49), (0, mem 47 p), (0, mem 48 p), (0, mem 46 p), (0, mem 45 p), (2, 35)]) rfl ?_
  refine jiald hF (by decide +kernel) (by exact hS.k49) (by omega) (by have := hS.l49; omega) ?_
  refine jblk hF [(.aload_n 0, 1)] (by decide +kernel) (pc' := 32) (lo' := [(0, (2, 35)), (1, (0, p))]) (st' := [(2, 35), (0, mem 49 p), (0, mem 47 p), (0, mem 48 p), (0, mem 46 p), (0, mem 45 p), (2, 35)]) rfl ?_
  refine jget hF 13 25 2 25 rfl (by decide) (by decide) rfl wd_1488 (by decide +kernel) (by exact hS.k35) ?_
  rw [SR.r25 hR]
  refine jblk hF [(.iload_n 1, 1)] (by decide +kernel) (pc' := 36) (lo' := [(0, (2, 35)), (1, (0, p))]) (st' := [(0, p), (2, 50), (0, mem 49 p), (0, mem 47 p), (0, mem 48 p), (0, mem 46 p), (0, mem 45 p), (2, 35)]) rfl ?_
  refine jiald hF (by decide +kernel) (by exact hS.k50) (by omega) (by have := hS.l50; omega) ?_
  refine jblk hF [(.aload_n 0, 1)] (by decide +kernel) (pc' := 38) (lo' := [(0, (2, 35)), (1, (0, p))]) (st' := [(2, 35), (0, mem 50 p), (0, mem 49 p), (0, mem 47 p), (0, mem 48 p), (0, mem 46 p), (0, mem 45 p), (2, 35)]) rfl ?_
  refine jget hF 13 26 2 26 rfl (by decide) (by decide) rfl wd_1489 (by decide +kernel) (by exact hS.k35) ?_
  rw [SR.r26 hR]
  refine jblk hF [(.iload_n 1, 1)] (by decide +kernel) (pc' := 42) (lo' := [(0, (2, 35)), (1, (0, p))]) (st' := [(0, p), (2, 51), (0, mem 50 p), (0, mem 49 p), (0, mem 47 p), (0, mem 48 p), (0, mem 46 p), (0, mem 45 p), (2, 35)]) rfl ?_
  refine jiald hF (by decide +kernel) (by exact hS.k51) (by omega) (by have := hS.l51; omega) ?_
  refine jblk hF [(.iadd, 1), (.aload_n 0, 1)] (by decide +kernel) (pc' := 45) (lo' := [(0, (2, 35)), (1, (0, p))]) (st' := [(2, 35), (0, (mem 50 p) + (mem 51 p)), (0, mem 49 p), (0, mem 47 p), (0, mem 48 p), (0, mem 46 p), (0, mem 45 p), (2, 35)]) rfl ?_
  refine jget hF 13 27 2 27 rfl (by decide) (by decide) rfl wd_1490 (by decide +kernel) (by exact hS.k35) ?_
  rw [SR.r27 hR]
  refine jblk hF [(.iload_n 1, 1)] (by decide +kernel) (pc' := 49) (lo' := [(0, (2, 35)), (1, (0, p))]) (st' := [(0, p), (2, 52), (0, (mem 50 p) + (mem 51 p)), (0, mem 49 p), (0, mem 47 p), (0, mem 48 p), (0, mem 46 p), (0, mem 45 p), (2, 35)]) rfl ?_
  refine jiald hF (by decide +kernel) (by exact hS.k52) (by omega) (by have := hS.l52; omega) ?_
  refine jcallV hF (c_X12_make hG hS hR (mem 45 p) (mem 46 p) (mem 48 p) (mem 47 p) (mem 49 p) ((mem 50 p) + (mem 51 p)) (mem 52 p) (by omega)) MW_X12_make 13 (by decide) (by exact hS.k35) wd_1996 wd_1998 wd_p83 (by decide +kernel) [] rfl rfl (by decide) (Nat.le_of_ble_eq_true rfl) (by decide) (kMV (fun m_1 h_2 => ?_))
  obtain ⟨hR_m_1, h_2⟩ := h_2
  have hK := h_2
  refine jvret hF hr (by decide +kernel) ?_
  exact lMV ⟨hR_m_1, by exact hK⟩
set_option maxHeartbeats 4000000 in
set_option maxRecDepth 100000 in
theorem c_X12_clear {l : Launch} {g : GP} (hG : GH g) {kd : Int → Nat} {ln : Int → Int} {mem : Int → Int → Int} {sz : Nat} (hS : SK kd ln) (hR : SR mem) : MT l g yX12_clear cX12_clear 2 none 0 0 0 [(2, 35)] kd ln mem sz (pMV (fun mem' => SR mem' ∧ ((∀ a j : Int, a ≠ 59 → mem' a j = mem a j) ∧ ∀ j : Int, 0 ≤ j → j < 200 → mem' 59 j = 0)) kd ln sz) := by
  refine MT_of hG (by decide +kernel) (Nat.le_of_ble_eq_true rfl) (fun z hF hr hn => ?_)
  refine jblk hF [(.iconst 0, 1), (.istore_n 1, 1)] (by decide +kernel) (pc' := 2) (lo' := [(1, (0, 0)), (0, (2, 35))]) (st' := []) rfl ?_
  have L_2 : ∀ (fu_3 : Nat) (k : Int) (m1 : Int → Int → Int), (0 ≤ k ∧ k ≤ 200) → (SR m1) → (∀ a j : Int, a ≠ 59 → m1 a j = mem a j) → (∀ j : Int, 0 ≤ j → j < k → m1 59 j = 0) →  (200 - k).toNat < fu_3 → J z g 2 0 0 (QM z g 0 0 (pMV (fun mem' => SR mem' ∧ ((∀ a j : Int, a ≠ 59 → mem' a j = mem a j) ∧ ∀ j : Int, 0 ≤ j → j < 200 → mem' 59 j = 0)) kd ln sz)) 2 [(0, (2, 35)), (1, (0, k))] [] kd ln m1 sz := by
    intro fu_3
    induction fu_3 with
    | zero => intro k m1 _ _ _ _ hm; omega
    | succ fu_3 ih_1 =>
      intro k m1 hk hR_m1 hf1 hz hm
      refine jblk hF [(.iload_n 1, 1), (.sipush 200, 3)] (by decide +kernel) (pc' := 6) (lo' := [(0, (2, 35)), (1, (0, k))]) (st' := [(0, 200), (0, k)]) rfl ?_
      refine jicmp_ge hF (off := 16) 22 (by decide +kernel) (by decide) (by omega) (by decide) (fun h_4 => ?_) (fun h_4 => ?_)
      · refine jvret hF hr (by decide +kernel) ?_
        exact lMV ⟨hR_m1, by exact ⟨hf1, fun j h1 h2 => hz j h1 (by omega)⟩⟩
      · refine jblk hF [(.aload_n 0, 1)] (by decide +kernel) (pc' := 10) (lo' := [(0, (2, 35)), (1, (0, k))]) (st' := [(2, 35)]) rfl ?_
        refine jget hF 13 35 2 35 rfl (by decide) (by decide) rfl wd_1498 (by decide +kernel) (by exact hS.k35) ?_
        rw [SR.r35 hR_m1]
        refine jblk hF [(.iload_n 1, 1)] (by decide +kernel) (pc' := 14) (lo' := [(0, (2, 35)), (1, (0, k))]) (st' := [(0, k), (2, 59)]) rfl ?_
        refine jlconst hF (n := 0) 0 rfl (by decide +kernel) ?_
        refine jlast hF (by decide +kernel) (by decide) (by exact hS.k59) (by omega) (by have := hS.l59; omega) ?_
        refine jblk hF [(.iinc 1 1, 3)] (by decide +kernel) (pc' := 19) (lo' := [(1, (0, k + 1)), (0, (2, 35))]) (st' := []) rfl ?_
        refine jgoto hF (off := (-17)) 2 (by decide +kernel) (by decide) ?_
        refine jsub [1, 0] rfl ?_
        refine ih_1 (k + 1) (set2 m1 59 k 0) ?_ ?_ ?_ ?_ ?_
        · omega
        · exact hR_m1.s (Or.inl (by decide))
        · intro a j h; rw [s2_a h]; exact hf1 a j h
        · exact upto_put (f := fun _ => 0) hz rfl
        · omega
  refine jsub [1, 0] rfl ?_
  refine L_2 _ 0 mem ?_ ?_ ?_ ?_ (Nat.lt_succ_self _)
  · omega
  · exact hR
  · intro a j _; rfl
  · intro j h1 h2; omega
set_option maxHeartbeats 4000000 in
set_option maxRecDepth 100000 in
theorem c_X12_slot {l : Launch} {g : GP} (hG : GH g) {kd : Int → Nat} {ln : Int → Int} {mem : Int → Int → Int} {sz : Nat} (c : Int) (h_c : InI c) : MT l g yX12_slot cX12_slot 1 (some .int) 0 0 0 [(0, c)] kd ln mem sz (pV (0, slotV c) kd ln mem sz) := by
  refine MT_of hG (by decide +kernel) (Nat.le_of_ble_eq_true rfl) (fun z hF hr hn => ?_)
  refine jblk hF [(.iload_n 0, 1), (.bipush 9, 2)] (by decide +kernel) (pc' := 3) (lo' := [(0, (0, c))]) (st' := [(0, 9), (0, c)]) rfl ?_
  refine jicmp_ne hF (off := 7) 10 (by decide +kernel) (by decide) (by omega) (by decide) (fun h_1 => ?_) (fun h_1 => ?_)
  · refine jblk hF [(.iload_n 0, 1)] (by decide +kernel) (pc' := 11) (lo' := [(0, (0, c))]) (st' := [(0, c)]) rfl ?_
    refine jiret hF hr (by decide +kernel) ?_
    exact lV (by first | exact (if_pos (by omega)).symm | exact (if_neg (by omega)).symm)
  · refine jblk hF [(.iconst 4, 1)] (by decide +kernel) (pc' := 7) (lo' := [(0, (0, c))]) (st' := [(0, 4)]) rfl ?_
    refine jgoto hF (off := 4) 11 (by decide +kernel) (by decide) ?_
    refine jiret hF hr (by decide +kernel) ?_
    exact lV (by first | exact (if_pos (by omega)).symm | exact (if_neg (by omega)).symm)
set_option maxHeartbeats 4000000 in
set_option maxRecDepth 100000 in
theorem c_X12_counts {l : Launch} {g : GP} (hG : GH g) {kd : Int → Nat} {ln : Int → Int} {mem : Int → Int → Int} {sz : Nat} (hS : SK kd ln) (hR : SR mem) (s q : Int) (hs : 0 ≤ s ∧ s ≤ 59) (h67 : InI (mem 67 s)) (h68 : InI (mem 68 s)) (h_q : InI q) : MT l g yX12_counts cX12_counts 3 (some .boolean) 0 0 0 [(2, 35), (0, s), (0, q)] kd ln mem sz (pB (cntS mem s q) kd ln mem sz) := by
  refine MT_of hG (by decide +kernel) (Nat.le_of_ble_eq_true rfl) (fun z hF hr hn => ?_)
  refine jblk hF [(.aload_n 0, 1)] (by decide +kernel) (pc' := 1) (lo' := [(0, (2, 35)), (1, (0, s)), (2, (0, q))]) (st' := [(2, 35)]) rfl ?_
  refine jget hF 13 43 2 43 rfl (by decide) (by decide) rfl wd_1506 (by decide +kernel) (by exact hS.k35) ?_
  rw [SR.r43 hR]
  refine jblk hF [(.iload_n 1, 1)] (by decide +kernel) (pc' := 5) (lo' := [(0, (2, 35)), (1, (0, s)), (2, (0, q))]) (st' := [(0, s), (2, 67)]) rfl ?_
  refine jiald hF (by decide +kernel) (by exact hS.k67) (by omega) (by have := hS.l67; omega) ?_
  refine jblk hF [(.iload_n 2, 1)] (by decide +kernel) (pc' := 7) (lo' := [(0, (2, 35)), (1, (0, s)), (2, (0, q))]) (st' := [(0, q), (0, mem 67 s)]) rfl ?_
  refine jicmp_gt hF (off := 27) 34 (by decide +kernel) (by decide) (by omega) (by omega) (fun h_1 => ?_) (fun h_1 => ?_)
  · refine jblk hF [(.iconst 0, 1)] (by decide +kernel) (pc' := 35) (lo' := [(0, (2, 35)), (1, (0, s)), (2, (0, q))]) (st' := [(0, 0)]) rfl ?_
    refine jzret hF hr (by omega) (by decide +kernel) ?_
    exact lB0 (by omega)
  · refine jblk hF [(.aload_n 0, 1)] (by decide +kernel) (pc' := 11) (lo' := [(0, (2, 35)), (1, (0, s)), (2, (0, q))]) (st' := [(2, 35)]) rfl ?_
    refine jget hF 13 44 2 44 rfl (by decide) (by decide) rfl wd_1507 (by decide +kernel) (by exact hS.k35) ?_
    rw [SR.r44 hR]
    refine jblk hF [(.iload_n 1, 1)] (by decide +kernel) (pc' := 15) (lo' := [(0, (2, 35)), (1, (0, s)), (2, (0, q))]) (st' := [(0, s), (2, 68)]) rfl ?_
    refine jiald hF (by decide +kernel) (by exact hS.k68) (by omega) (by have := hS.l68; omega) ?_
    refine jblk hF [(.iconst (-1), 1)] (by decide +kernel) (pc' := 17) (lo' := [(0, (2, 35)), (1, (0, s)), (2, (0, q))]) (st' := [(0, (-1)), (0, mem 68 s)]) rfl ?_
    refine jicmp_eq hF (off := 13) 30 (by decide +kernel) (by decide) (by omega) (by decide) (fun h_2 => ?_) (fun h_2 => ?_)
    · refine jblk hF [(.iconst 1, 1)] (by decide +kernel) (pc' := 31) (lo' := [(0, (2, 35)), (1, (0, s)), (2, (0, q))]) (st' := [(0, 1)]) rfl ?_
      refine jgoto hF (off := 4) 35 (by decide +kernel) (by decide) ?_
      refine jzret hF hr (by omega) (by decide +kernel) ?_
      exact lB1 (by omega)
    · refine jblk hF [(.aload_n 0, 1)] (by decide +kernel) (pc' := 21) (lo' := [(0, (2, 35)), (1, (0, s)), (2, (0, q))]) (st' := [(2, 35)]) rfl ?_
      refine jget hF 13 44 2 44 rfl (by decide) (by decide) rfl wd_1507 (by decide +kernel) (by exact hS.k35) ?_
      rw [SR.r44 hR]
      refine jblk hF [(.iload_n 1, 1)] (by decide +kernel) (pc' := 25) (lo' := [(0, (2, 35)), (1, (0, s)), (2, (0, q))]) (st' := [(0, s), (2, 68)]) rfl ?_
      refine jiald hF (by decide +kernel) (by exact hS.k68) (by omega) (by have := hS.l68; omega) ?_
      refine jblk hF [(.iload_n 2, 1)] (by decide +kernel) (pc' := 27) (lo' := [(0, (2, 35)), (1, (0, s)), (2, (0, q))]) (st' := [(0, q), (0, mem 68 s)]) rfl ?_
      refine jicmp_le hF (off := 7) 34 (by decide +kernel) (by decide) (by omega) (by omega) (fun h_3 => ?_) (fun h_3 => ?_)
      · refine jblk hF [(.iconst 0, 1)] (by decide +kernel) (pc' := 35) (lo' := [(0, (2, 35)), (1, (0, s)), (2, (0, q))]) (st' := [(0, 0)]) rfl ?_
        refine jzret hF hr (by omega) (by decide +kernel) ?_
        exact lB0 (by omega)
      · refine jblk hF [(.iconst 1, 1)] (by decide +kernel) (pc' := 31) (lo' := [(0, (2, 35)), (1, (0, s)), (2, (0, q))]) (st' := [(0, 1)]) rfl ?_
        refine jgoto hF (off := 4) 35 (by decide +kernel) (by decide) ?_
        refine jzret hF hr (by omega) (by decide +kernel) ?_
        exact lB1 (by omega)
set_option maxHeartbeats 4000000 in
set_option maxRecDepth 100000 in
theorem c_X12_makeAs {l : Launch} {g : GP} (hG : GH g) {kd : Int → Nat} {ln : Int → Int} {mem : Int → Int → Int} {sz : Nat} (hS : SK kd ln) (hR : SR mem) (p q : Int) (hp : PG mem p) (hSL : SLS mem) (hPg : 0 ≤ mem 35 33 ∧ mem 35 33 ≤ 12) (h_q : InI q) (h0 : 0 ≤ mem 35 0 ∧ mem 35 0 ≤ 1000) : MT l g yX12_makeAs cX12_makeAs 4 none 5 0 0 [(2, 35), (0, p), (0, q)] kd ln mem sz (pMV (fun mem' => SR mem' ∧ (PD mem mem' p (adS mem p q))) kd ln sz) := by
  refine MT_of hG (by decide +kernel) (Nat.le_of_ble_eq_true rfl) (fun z hF hr hn => ?_)
  refine jblk hF [(.aload_n 0, 1)] (by decide +kernel) (pc' := 1) (lo' := [(0, (2, 35)), (1, (0, p)), (2, (0, q))]) (st' := [(2, 35)]) rfl ?_
  refine jcallV hF (c_X12_clear hG hS hR) MW_X12_clear 13 (by decide) (by exact hS.k35) wd_1988 wd_1990 wd_p81 (by decide +kernel) [] rfl rfl (by decide) (Nat.le_of_ble_eq_true rfl) (by decide) (kMV (fun m_1 h_2 => ?_))
  obtain ⟨hR_m_1, h_2⟩ := h_2
  have hcl := h_2
  refine jblk hF [(.iconst 0, 1), (.istore_n 3, 1)] (by decide +kernel) (pc' := 6) (lo' := [(3, (0, 0)), (0, (2, 35)), (1, (0, p)), (2, (0, q))]) (st' := []) rfl ?_
  have L_4 : ∀ (fu_5 : Nat) (s : Int) (m1 : Int → Int → Int), (0 ≤ s ∧ s ≤ mem 35 45) → (SR m1) → (∀ a j : Int, a ≠ 59 → m1 a j = mem a j) → (∀ i : Int, 0 ≤ i → i < 200 → m1 59 i = adN mem p q s.toNat i) →  (mem 35 45 - s).toNat < fu_5 → J z g 4 0 0 (QM z g 0 0 (pMV (fun mem' => SR mem' ∧ (PD mem mem' p (adS mem p q))) kd ln sz)) 6 [(0, (2, 35)), (1, (0, p)), (2, (0, q)), (3, (0, s))] [] kd ln m1 sz := by
    intro fu_5
    induction fu_5 with
    | zero => intro s m1 _ _ _ _ hm; omega
    | succ fu_5 ih_3 =>
      intro s m1 hs1 hR_m1 hf1 had hm
      have e45 := hf1 35 45 (by decide)
      have e63 := hf1 63 s (by decide)
      have e64 := hf1 64 s (by decide)
      have e65 := hf1 65 s (by decide)
      have e66 := hf1 66 s (by decide)
      have e67 := hf1 67 s (by decide)
      have e68 := hf1 68 s (by decide)
      refine jblk hF [(.iload_n 3, 1), (.aload_n 0, 1)] (by decide +kernel) (pc' := 8) (lo' := [(0, (2, 35)), (1, (0, p)), (2, (0, q)), (3, (0, s))]) (st' := [(2, 35), (0, s)]) rfl ?_
      refine jget hF 13 45 0 45 rfl (by decide) (by decide) rfl wd_1508 (by decide +kernel) (by exact hS.k35) ?_
      refine jicmp_ge hF (off := 61) 72 (by decide +kernel) (by decide) (by omega) (by omega) (fun h_6 => ?_) (fun h_6 => ?_)
      · have hFm : FR mem m1 := fun a j h1 _ _ _ => hf1 a j h1
        have hE := hFm.e
        refine jblk hF [(.aload_n 0, 1), (.iload_n 1, 1)] (by decide +kernel) (pc' := 74) (lo' := [(0, (2, 35)), (1, (0, p)), (2, (0, q)), (3, (0, s))]) (st' := [(0, p), (2, 35)]) rfl ?_
        refine jcallV hF (c_X12_makePage hG hS hR_m1 p (by first | omega | exact hE.fPG hp | exact (EQ36.f _ _).fPG hp)) MW_X12_makePage 13 (by decide) (by exact hS.k35) wd_1992 wd_1994 wd_p82 (by decide +kernel) [] rfl rfl (by decide) (Nat.le_of_ble_eq_true rfl) (by decide) (kMV (fun m_7 h_8 => ?_))
        obtain ⟨hR_m_7, h_8⟩ := h_8
        have hK := h_8
        refine jvret hF hr (by decide +kernel) ?_
        exact lMV ⟨hR_m_7, by exact PD.of hp hFm (fun i h1 h2 => by rw [had i h1 h2]; unfold adS; rw [show s = mem 35 45 by omega]) hK⟩
      · have hs := hSL.2.2 s (by omega) (by omega)
        refine jblk hF [(.aload_n 0, 1)] (by decide +kernel) (pc' := 15) (lo' := [(0, (2, 35)), (1, (0, p)), (2, (0, q)), (3, (0, s))]) (st' := [(2, 35)]) rfl ?_
        refine jget hF 13 39 2 39 rfl (by decide) (by decide) rfl wd_1502 (by decide +kernel) (by exact hS.k35) ?_
        rw [SR.r39 hR_m1]
        refine jblk hF [(.iload_n 3, 1)] (by decide +kernel) (pc' := 19) (lo' := [(0, (2, 35)), (1, (0, p)), (2, (0, q)), (3, (0, s))]) (st' := [(0, s), (2, 63)]) rfl ?_
        refine jiald hF (by decide +kernel) (by exact hS.k63) (by omega) (by have := hS.l63; omega) ?_
        refine jblk hF [(.iload_n 1, 1)] (by decide +kernel) (pc' := 21) (lo' := [(0, (2, 35)), (1, (0, p)), (2, (0, q)), (3, (0, s))]) (st' := [(0, p), (0, m1 63 s)]) rfl ?_
        refine jicmp_ne hF (off := 45) 66 (by decide +kernel) (by decide) (by omega) (by omega) (fun h_9 => ?_) (fun h_9 => ?_)
        · refine jblk hF [(.iinc 3 1, 3)] (by decide +kernel) (pc' := 69) (lo' := [(3, (0, s + 1)), (0, (2, 35)), (1, (0, p)), (2, (0, q))]) (st' := []) rfl ?_
          refine jgoto hF (off := (-63)) 6 (by decide +kernel) (by decide) ?_
          refine jsub [1, 2, 3, 0] rfl ?_
          refine ih_3 (s + 1) m1 ?_ ?_ ?_ ?_ ?_
          · omega
          · first | exact hR_m1 | exact hR_m1.s (Or.inl (by decide))
          · first | exact hf1 | (intro a j h; rw [s2_a h]; exact hf1 a j h)
          · intro i h1 h2; rw [adN_s (by omega)]; first | (rw [if_neg (by omega), Int.add_zero]; exact had i h1 h2) | (rw [e64, e65, e66, had _ (by rw [← e65]; omega) (by rw [← e65]; omega)]; by_cases e : i = 5 * mem 64 s + slotV (mem 65 s); (rw [e, s2_s, if_pos (by omega)]); (rw [s2_k e, if_neg (by omega), Int.add_zero]; exact had i h1 h2))
          · omega
        · have hsp : mem 63 s = p := by omega
          unfold SL at hs
          rw [hsp] at hs
          refine jblk hF [(.aload_n 0, 1), (.iload_n 3, 1), (.iload_n 2, 1)] (by decide +kernel) (pc' := 27) (lo' := [(0, (2, 35)), (1, (0, p)), (2, (0, q)), (3, (0, s))]) (st' := [(0, q), (0, s), (2, 35)]) rfl ?_
          refine jcallV hF (c_X12_counts hG hS hR_m1 s q (by omega) (by omega) (by omega) (by omega)) MW_X12_counts 13 (by decide) (by exact hS.k35) wd_2012 wd_2014 wd_p86 (by decide +kernel) [] rfl rfl (by decide) (Nat.le_of_ble_eq_true rfl) (by decide) (kB (fun h_10 => ?_) (fun h_10 => ?_))
          · refine jif_eq hF (off := 36) 66 (by decide +kernel) (by decide) (by decide) (fun h => absurd h (by decide)) (fun _ => ?_)
            have hsl : 0 ≤ slotV (m1 65 s) ∧ slotV (m1 65 s) ≤ 4 := by unfold slotV; split <;> omega
            refine jblk hF [(.aload_n 0, 1)] (by decide +kernel) (pc' := 34) (lo' := [(0, (2, 35)), (1, (0, p)), (2, (0, q)), (3, (0, s))]) (st' := [(2, 35)]) rfl ?_
            refine jget hF 13 35 2 35 rfl (by decide) (by decide) rfl wd_1498 (by decide +kernel) (by exact hS.k35) ?_
            rw [SR.r35 hR_m1]
            refine jblk hF [(.iconst 5, 1), (.aload_n 0, 1)] (by decide +kernel) (pc' := 39) (lo' := [(0, (2, 35)), (1, (0, p)), (2, (0, q)), (3, (0, s))]) (st' := [(2, 35), (0, 5), (2, 59)]) rfl ?_
            refine jget hF 13 40 2 40 rfl (by decide) (by decide) rfl wd_1503 (by decide +kernel) (by exact hS.k35) ?_
            rw [SR.r40 hR_m1]
            refine jblk hF [(.iload_n 3, 1)] (by decide +kernel) (pc' := 43) (lo' := [(0, (2, 35)), (1, (0, p)), (2, (0, q)), (3, (0, s))]) (st' := [(0, s), (2, 64), (0, 5), (2, 59)]) rfl ?_
            refine jiald hF (by decide +kernel) (by exact hS.k64) (by omega) (by have := hS.l64; omega) ?_
            refine jblk hF [(.imul, 1), (.aload_n 0, 1)] (by decide +kernel) (pc' := 46) (lo' := [(0, (2, 35)), (1, (0, p)), (2, (0, q)), (3, (0, s))]) (st' := [(2, 35), (0, 5 * (m1 64 s)), (2, 59)]) rfl ?_
            refine jget hF 13 41 2 41 rfl (by decide) (by decide) rfl wd_1504 (by decide +kernel) (by exact hS.k35) ?_
            rw [SR.r41 hR_m1]
            refine jblk hF [(.iload_n 3, 1)] (by decide +kernel) (pc' := 50) (lo' := [(0, (2, 35)), (1, (0, p)), (2, (0, q)), (3, (0, s))]) (st' := [(0, s), (2, 65), (0, 5 * (m1 64 s)), (2, 59)]) rfl ?_
            refine jiald hF (by decide +kernel) (by exact hS.k65) (by omega) (by have := hS.l65; omega) ?_
            refine jcallS hF (c_X12_slot hG (m1 65 s) (by omega)) MW_X12_slot wd_2016 wd_2017 (by decide +kernel) [(0, 5 * (m1 64 s)), (2, 59)] rfl rfl (by decide) (Nat.le_of_ble_eq_true rfl) (by decide) (kV ?_)
            refine jblk hF [(.iadd, 1)] (by decide +kernel) (pc' := 55) (lo' := [(0, (2, 35)), (1, (0, p)), (2, (0, q)), (3, (0, s))]) (st' := [(0, (5 * (m1 64 s)) + (slotV (m1 65 s))), (2, 59)]) rfl ?_
            refine jdup2 hF (by show ¬ (0 : Nat) = 1; decide) (by show ¬ (2 : Nat) = 1; decide) (by decide +kernel) ?_
            refine jlald hF (by decide +kernel) (by exact hS.k59) (by omega) (by have := hS.l59; omega) ?_
            refine jblk hF [(.aload_n 0, 1)] (by decide +kernel) (pc' := 58) (lo' := [(0, (2, 35)), (1, (0, p)), (2, (0, q)), (3, (0, s))]) (st' := [(2, 35), (1, m1 59 ((5 * (m1 64 s)) + (slotV (m1 65 s)))), (0, (5 * (m1 64 s)) + (slotV (m1 65 s))), (2, 59)]) rfl ?_
            refine jget hF 13 42 2 42 rfl (by decide) (by decide) rfl wd_1505 (by decide +kernel) (by exact hS.k35) ?_
            rw [SR.r42 hR_m1]
            refine jblk hF [(.iload_n 3, 1)] (by decide +kernel) (pc' := 62) (lo' := [(0, (2, 35)), (1, (0, p)), (2, (0, q)), (3, (0, s))]) (st' := [(0, s), (2, 66), (1, m1 59 ((5 * (m1 64 s)) + (slotV (m1 65 s)))), (0, (5 * (m1 64 s)) + (slotV (m1 65 s))), (2, 59)]) rfl ?_
            refine jiald hF (by decide +kernel) (by exact hS.k66) (by omega) (by have := hS.l66; omega) ?_
            refine ji2l hF (by decide +kernel) (by omega) ?_
            refine jblk hF [(.ladd, 1)] (by decide +kernel) (pc' := 65) (lo' := [(0, (2, 35)), (1, (0, p)), (2, (0, q)), (3, (0, s))]) (st' := [(1, (m1 59 ((5 * (m1 64 s)) + (slotV (m1 65 s)))) + (m1 66 s)), (0, (5 * (m1 64 s)) + (slotV (m1 65 s))), (2, 59)]) rfl ?_
            refine jlast hF (by decide +kernel) (by decide) (by exact hS.k59) (by omega) (by have := hS.l59; omega) ?_
            refine jblk hF [(.iinc 3 1, 3)] (by decide +kernel) (pc' := 69) (lo' := [(3, (0, s + 1)), (0, (2, 35)), (1, (0, p)), (2, (0, q))]) (st' := []) rfl ?_
            refine jgoto hF (off := (-63)) 6 (by decide +kernel) (by decide) ?_
            refine jsub [1, 2, 3, 0] rfl ?_
            refine ih_3 (s + 1) (set2 m1 59 ((5 * (m1 64 s)) + (slotV (m1 65 s))) ((m1 59 ((5 * (m1 64 s)) + (slotV (m1 65 s)))) + (m1 66 s))) ?_ ?_ ?_ ?_ ?_
            · omega
            · first | exact hR_m1 | exact hR_m1.s (Or.inl (by decide))
            · first | exact hf1 | (intro a j h; rw [s2_a h]; exact hf1 a j h)
            · intro i h1 h2; rw [adN_s (by omega)]; first | (rw [if_neg (by omega), Int.add_zero]; exact had i h1 h2) | (rw [e64, e65, e66, had _ (by rw [← e65]; omega) (by rw [← e65]; omega)]; by_cases e : i = 5 * mem 64 s + slotV (mem 65 s); (rw [e, s2_s, if_pos (by omega)]); (rw [s2_k e, if_neg (by omega), Int.add_zero]; exact had i h1 h2))
            · omega
          · refine jif_eq hF (off := 36) 66 (by decide +kernel) (by decide) (by decide) (fun _ => ?_) (fun h => absurd h (by decide))
            refine jblk hF [(.iinc 3 1, 3)] (by decide +kernel) (pc' := 69) (lo' := [(3, (0, s + 1)), (0, (2, 35)), (1, (0, p)), (2, (0, q))]) (st' := []) rfl ?_
            refine jgoto hF (off := (-63)) 6 (by decide +kernel) (by decide) ?_
            refine jsub [1, 2, 3, 0] rfl ?_
            refine ih_3 (s + 1) m1 ?_ ?_ ?_ ?_ ?_
            · omega
            · first | exact hR_m1 | exact hR_m1.s (Or.inl (by decide))
            · first | exact hf1 | (intro a j h; rw [s2_a h]; exact hf1 a j h)
            · intro i h1 h2; rw [adN_s (by omega)]; first | (rw [if_neg (by omega), Int.add_zero]; exact had i h1 h2) | (rw [e64, e65, e66, had _ (by rw [← e65]; omega) (by rw [← e65]; omega)]; by_cases e : i = 5 * mem 64 s + slotV (mem 65 s); (rw [e, s2_s, if_pos (by omega)]); (rw [s2_k e, if_neg (by omega), Int.add_zero]; exact had i h1 h2))
            · omega
  refine jsub [1, 2, 3, 0] rfl ?_
  refine L_4 _ 0 m_1 ?_ ?_ ?_ ?_ (Nat.lt_succ_self _)
  · omega
  · exact hR_m_1
  · exact hcl.1
  · exact hcl.2
end
