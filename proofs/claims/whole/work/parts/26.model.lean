section
theorem ten_pos {k : Nat} : 1 ≤ (10 : Int) ^ k := by
  induction k with
  | zero => decide
  | succ k ih => rw [Int.pow_succ]; omega
theorem nearBy_in (a b h : Int) (ha : InL a) (hb : 1 ≤ b) : InL (nearBy a b h) := by
  have h1 := ediv_bd a b hb
  have h2 := ediv_mul_bd a b hb
  unfold nearBy
  rcases Int.lt_or_le 1 b with hq | hq
  · rcases Int.lt_or_le a 0 with hn | hn
    · have := h1.2 hn
      (repeat' split) <;> omega
    · have h4 := h1.1 hn
      have := Int.mul_le_mul_of_nonneg_left (show 2 ≤ b by omega) h4.1
      (repeat' split) <;> omega
  · have : b = 1 := by omega
    subst this
    rw [Int.ediv_one, Int.mul_one]
    (repeat' split) <;> omega
theorem rightV_bd {mem : Int → Int → Int} {p n : Int} (hp : PG mem p) (h0 : 0 ≤ n) (h1 : n < mem 47 p) : 0 ≤ rightV mem p n ∧ rightV mem p n ≤ 200000000000001 :=
  near_bd (by omega) (by have := xof_bd hp h0 h1; omega)
set_option maxHeartbeats 4000000 in
set_option maxRecDepth 100000 in
theorem c_X12_makeTrue {l : Launch} {g : GP} (hG : GH g) {kd : Int → Nat} {ln : Int → Int} {mem : Int → Int → Int} {sz : Nat} (hS : SK kd ln) (hR : SR mem) (p : Int) (hp : PG mem p) : MT l g yX12_makeTrue cX12_makeTrue 2 none 5 0 0 [(2, 35), (0, p)] kd ln mem sz (pMV (fun mem' => SR mem' ∧ (PD mem mem' p (fun _ => 0))) kd ln sz) := by
  refine MT_of hG (by decide +kernel) (Nat.le_of_ble_eq_true rfl) (fun z hF hr hn => ?_)
  refine jblk hF [(.aload_n 0, 1)] (by decide +kernel) (pc' := 1) (lo' := [(0, (2, 35)), (1, (0, p))]) (st' := [(2, 35)]) rfl ?_
  refine jcallV hF (c_X12_clear hG hS hR) MW_X12_clear 13 (by decide) (by exact hS.k35) wd_1988 wd_1990 wd_p81 (by decide +kernel) [] rfl rfl (by decide) (Nat.le_of_ble_eq_true rfl) (by decide) (kMV (fun m_1 h_2 => ?_))
  obtain ⟨hR_m_1, h_2⟩ := h_2
  have hcl := h_2
  have hFm : FR mem m_1 := fun a j h1 _ _ _ => hcl.1 a j h1
  have hE := hFm.e
  refine jblk hF [(.aload_n 0, 1), (.iload_n 1, 1)] (by decide +kernel) (pc' := 6) (lo' := [(0, (2, 35)), (1, (0, p))]) (st' := [(0, p), (2, 35)]) rfl ?_
  refine jcallV hF (c_X12_makePage hG hS hR_m_1 p (by first | omega | exact hE.fPG hp | exact (EQ36.f _ _).fPG hp)) MW_X12_makePage 13 (by decide) (by exact hS.k35) wd_1992 wd_1994 wd_p82 (by decide +kernel) [] rfl rfl (by decide) (Nat.le_of_ble_eq_true rfl) (by decide) (kMV (fun m_3 h_4 => ?_))
  obtain ⟨hR_m_3, h_4⟩ := h_4
  have hK := h_4
  refine jvret hF hr (by decide +kernel) ?_
  exact lMV ⟨hR_m_3, by exact PD.of hp hFm hcl.2 hK⟩
set_option maxHeartbeats 4000000 in
set_option maxRecDepth 100000 in
theorem c_X12_isColumn {l : Launch} {g : GP} (hG : GH g) {kd : Int → Nat} {ln : Int → Int} {mem : Int → Int → Int} {sz : Nat} (hS : SK kd ln) (hR : SR mem) (p c : Int) (hp : PG mem p) (h_c : InI c) : MT l g yX12_isColumn cX12_isColumn 3 (some .boolean) 1 0 0 [(2, 35), (0, p), (0, c)] kd ln mem sz (pB (c = 9 ∨ (0 ≤ c ∧ c ≤ mem 49 p - 1)) kd ln mem sz) := by
  refine MT_of hG (by decide +kernel) (Nat.le_of_ble_eq_true rfl) (fun z hF hr hn => ?_)
  refine jblk hF [(.iload_n 2, 1), (.bipush 9, 2)] (by decide +kernel) (pc' := 3) (lo' := [(0, (2, 35)), (1, (0, p)), (2, (0, c))]) (st' := [(0, 9), (0, c)]) rfl ?_
  refine jicmp_eq hF (off := 19) 22 (by decide +kernel) (by decide) (by omega) (by decide) (fun h_1 => ?_) (fun h_1 => ?_)
  · refine jblk hF [(.iconst 1, 1)] (by decide +kernel) (pc' := 23) (lo' := [(0, (2, 35)), (1, (0, p)), (2, (0, c))]) (st' := [(0, 1)]) rfl ?_
    refine jgoto hF (off := 4) 27 (by decide +kernel) (by decide) ?_
    refine jzret hF hr (by omega) (by decide +kernel) ?_
    exact lB1 (by omega)
  · refine jblk hF [(.iload_n 2, 1), (.iconst 0, 1), (.aload_n 0, 1)] (by decide +kernel) (pc' := 9) (lo' := [(0, (2, 35)), (1, (0, p)), (2, (0, c))]) (st' := [(2, 35), (0, 0), (0, c)]) rfl ?_
    refine jget hF 13 24 2 24 rfl (by decide) (by decide) rfl wd_1487 (by decide +kernel) (by exact hS.k35) ?_
    rw [SR.r24 hR]
    refine jblk hF [(.iload_n 1, 1)] (by decide +kernel) (pc' := 13) (lo' := [(0, (2, 35)), (1, (0, p)), (2, (0, c))]) (st' := [(0, p), (2, 49), (0, 0), (0, c)]) rfl ?_
    refine jiald hF (by decide +kernel) (by exact hS.k49) (by omega) (by have := hS.l49; omega) ?_
    refine jblk hF [(.iconst 1, 1), (.isub, 1)] (by decide +kernel) (pc' := 16) (lo' := [(0, (2, 35)), (1, (0, p)), (2, (0, c))]) (st' := [(0, (mem 49 p) - 1), (0, 0), (0, c)]) rfl ?_
    refine jcallS hF (c_X12_in hG c 0 ((mem 49 p) - 1) (by omega) (by decide) (by omega)) MW_X12_in wd_1743 wd_1744 (by decide +kernel) [] rfl rfl (by decide) (Nat.le_of_ble_eq_true rfl) (by decide) (kB (fun h_2 => ?_) (fun h_2 => ?_))
    · refine jif_eq hF (off := 7) 26 (by decide +kernel) (by decide) (by decide) (fun h => absurd h (by decide)) (fun _ => ?_)
      refine jblk hF [(.iconst 1, 1)] (by decide +kernel) (pc' := 23) (lo' := [(0, (2, 35)), (1, (0, p)), (2, (0, c))]) (st' := [(0, 1)]) rfl ?_
      refine jgoto hF (off := 4) 27 (by decide +kernel) (by decide) ?_
      refine jzret hF hr (by omega) (by decide +kernel) ?_
      exact lB1 (by omega)
    · refine jif_eq hF (off := 7) 26 (by decide +kernel) (by decide) (by decide) (fun _ => ?_) (fun h => absurd h (by decide))
      refine jblk hF [(.iconst 0, 1)] (by decide +kernel) (pc' := 27) (lo' := [(0, (2, 35)), (1, (0, p)), (2, (0, c))]) (st' := [(0, 0)]) rfl ?_
      refine jzret hF hr (by omega) (by decide +kernel) ?_
      exact lB0 (by omega)
set_option maxHeartbeats 4000000 in
set_option maxRecDepth 100000 in
theorem c_X12_slip {l : Launch} {g : GP} (hG : GH g) {kd : Int → Nat} {ln : Int → Int} {mem : Int → Int → Int} {sz : Nat} (hS : SK kd ln) (hR : SR mem) (p n c am : Int) (h_p : InI p) (h_n : InI n) (h_c : InI c) (h_am : InI am) (hPS : PGS mem) (hs45 : 0 ≤ mem 35 45 ∧ mem 35 45 ≤ 60) : MT l g yX12_slip cX12_slip 5 (some .int) 3 0 0 [(2, 35), (0, p), (0, n), (0, c), (0, am)] kd ln mem sz (pMR 0 (fun v mem' => SR mem' ∧ ((slipC mem p n c am → v = mem 35 45 ∧ mem' = slipM mem p n c am) ∧ (¬ slipC mem p n c am → v = -1 ∧ mem' = mem))) kd ln sz) := by
  refine MT_of hG (by decide +kernel) (Nat.le_of_ble_eq_true rfl) (fun z hF hr hn => ?_)
  refine jblk hF [(.aload_n 0, 1), (.iload_n 1, 1), (.iload_n 2, 1)] (by decide +kernel) (pc' := 3) (lo' := [(0, (2, 35)), (1, (0, p)), (2, (0, n)), (3, (0, c)), (4, (0, am))]) (st' := [(0, n), (0, p), (2, 35)]) rfl ?_
  refine jcallV hF (c_X12_isLine hG hS hR p n (by omega) (by omega) (by exact hPS)) MW_X12_isLine 13 (by decide) (by exact hS.k35) wd_1954 wd_1956 wd_p76 (by decide +kernel) [] rfl rfl (by decide) (Nat.le_of_ble_eq_true rfl) (by decide) (kB (fun h_1 => ?_) (fun h_1 => ?_))
  · refine jif_eq hF (off := 49) 55 (by decide +kernel) (by decide) (by decide) (fun h => absurd h (by decide)) (fun _ => ?_)
    have hp := hPS.2.2 p (by omega) (by omega)
    refine jblk hF [(.aload_n 0, 1), (.iload_n 1, 1), (.iload_n 2, 1)] (by decide +kernel) (pc' := 12) (lo' := [(0, (2, 35)), (1, (0, p)), (2, (0, n)), (3, (0, c)), (4, (0, am))]) (st' := [(0, n), (0, p), (2, 35)]) rfl ?_
    refine jcallV hF (c_X12_isMade hG hS hR p n (by first | omega | exact hE.fPG hp | exact (EQ36.f _ _).fPG hp) (by omega)) MW_X12_isMade 13 (by decide) (by exact hS.k35) wd_1942 wd_1944 wd_p74 (by decide +kernel) [] rfl rfl (by decide) (Nat.le_of_ble_eq_true rfl) (by decide) (kB (fun h_3 => ?_) (fun h_3 => ?_))
    · refine jif_eq hF (off := 40) 55 (by decide +kernel) (by decide) (by decide) (fun h => absurd h (by decide)) (fun _ => ?_)
      refine jblk hF [(.aload_n 0, 1), (.iload_n 1, 1), (.iload_n 3, 1)] (by decide +kernel) (pc' := 21) (lo' := [(0, (2, 35)), (1, (0, p)), (2, (0, n)), (3, (0, c)), (4, (0, am))]) (st' := [(0, c), (0, p), (2, 35)]) rfl ?_
      refine jcallV hF (c_X12_isColumn hG hS hR p c (by first | omega | exact hE.fPG hp | exact (EQ36.f _ _).fPG hp) (by omega)) MW_X12_isColumn 13 (by decide) (by exact hS.k35) wd_1966 wd_1968 wd_p78 (by decide +kernel) [] rfl rfl (by decide) (Nat.le_of_ble_eq_true rfl) (by decide) (kB (fun h_5 => ?_) (fun h_5 => ?_))
      · refine jif_eq hF (off := 31) 55 (by decide +kernel) (by decide) (by decide) (fun h => absurd h (by decide)) (fun _ => ?_)
        refine jblk hF [(.iload 4, 2)] (by decide +kernel) (pc' := 29) (lo' := [(0, (2, 35)), (1, (0, p)), (2, (0, n)), (3, (0, c)), (4, (0, am))]) (st' := [(0, am)]) rfl ?_
        refine jldcw hF (-1000000) (cst_i wd_1970 (by decide)) (by decide +kernel) ?_
        refine jldcw hF 1000000 (cst_i wd_1971 (by decide)) (by decide +kernel) ?_
        refine jcallS hF (c_X12_in hG am (-1000000) 1000000 (by omega) (by decide) (by decide)) MW_X12_in wd_1743 wd_1744 (by decide +kernel) [] rfl rfl (by decide) (Nat.le_of_ble_eq_true rfl) (by decide) (kB (fun h_7 => ?_) (fun h_7 => ?_))
        · refine jif_eq hF (off := 17) 55 (by decide +kernel) (by decide) (by decide) (fun h => absurd h (by decide)) (fun _ => ?_)
          refine jblk hF [(.iload 4, 2)] (by decide +kernel) (pc' := 43) (lo' := [(0, (2, 35)), (1, (0, p)), (2, (0, n)), (3, (0, c)), (4, (0, am))]) (st' := [(0, am)]) rfl ?_
          refine jif_eq hF (off := 12) 55 (by decide +kernel) (by decide) (by omega) (fun h_9 => ?_) (fun h_9 => ?_)
          · refine jblk hF [(.iconst (-1), 1)] (by decide +kernel) (pc' := 56) (lo' := [(0, (2, 35)), (1, (0, p)), (2, (0, n)), (3, (0, c)), (4, (0, am))]) (st' := [(0, (-1))]) rfl ?_
            refine jiret hF hr (by decide +kernel) ?_
            exact lMR ⟨hR, by first | exact ⟨fun h => absurd h (by omega), fun _ => ⟨rfl, rfl⟩⟩ | exact ⟨fun _ => ⟨by omega, rfl⟩, fun h => absurd (by omega) h⟩⟩
          · refine jblk hF [(.aload_n 0, 1)] (by decide +kernel) (pc' := 47) (lo' := [(0, (2, 35)), (1, (0, p)), (2, (0, n)), (3, (0, c)), (4, (0, am))]) (st' := [(2, 35)]) rfl ?_
            refine jget hF 13 45 0 45 rfl (by decide) (by decide) rfl wd_1508 (by decide +kernel) (by exact hS.k35) ?_
            refine jblk hF [(.bipush 60, 2)] (by decide +kernel) (pc' := 52) (lo' := [(0, (2, 35)), (1, (0, p)), (2, (0, n)), (3, (0, c)), (4, (0, am))]) (st' := [(0, 60), (0, mem 35 45)]) rfl ?_
            refine jicmp_ne hF (off := 5) 57 (by decide +kernel) (by decide) (by omega) (by decide) (fun h_10 => ?_) (fun h_10 => ?_)
            · refine jblk hF [(.aload_n 0, 1)] (by decide +kernel) (pc' := 58) (lo' := [(0, (2, 35)), (1, (0, p)), (2, (0, n)), (3, (0, c)), (4, (0, am))]) (st' := [(2, 35)]) rfl ?_
              refine jget hF 13 39 2 39 rfl (by decide) (by decide) rfl wd_1502 (by decide +kernel) (by exact hS.k35) ?_
              rw [SR.r39 hR]
              refine jblk hF [(.aload_n 0, 1)] (by decide +kernel) (pc' := 62) (lo' := [(0, (2, 35)), (1, (0, p)), (2, (0, n)), (3, (0, c)), (4, (0, am))]) (st' := [(2, 35), (2, 63)]) rfl ?_
              refine jget hF 13 45 0 45 rfl (by decide) (by decide) rfl wd_1508 (by decide +kernel) (by exact hS.k35) ?_
              refine jblk hF [(.iload_n 1, 1)] (by decide +kernel) (pc' := 66) (lo' := [(0, (2, 35)), (1, (0, p)), (2, (0, n)), (3, (0, c)), (4, (0, am))]) (st' := [(0, p), (0, mem 35 45), (2, 63)]) rfl ?_
              refine jiast hF (by decide +kernel) (by decide) (by exact hS.k63) (by omega) (by have := hS.l63; omega) ?_
              refine jblk hF [(.aload_n 0, 1)] (by decide +kernel) (pc' := 68) (lo' := [(0, (2, 35)), (1, (0, p)), (2, (0, n)), (3, (0, c)), (4, (0, am))]) (st' := [(2, 35)]) rfl ?_
              refine jget hF 13 40 2 40 rfl (by decide) (by decide) rfl wd_1503 (by decide +kernel) (by exact hS.k35) ?_
              rw [SR.r40 (SR.s hR (Or.inl (by decide)))]
              refine jblk hF [(.aload_n 0, 1)] (by decide +kernel) (pc' := 72) (lo' := [(0, (2, 35)), (1, (0, p)), (2, (0, n)), (3, (0, c)), (4, (0, am))]) (st' := [(2, 35), (2, 64)]) rfl ?_
              refine jget hF 13 45 0 45 rfl (by decide) (by decide) rfl wd_1508 (by decide +kernel) (by exact hS.k35) ?_
              rw [show (set2 mem 63 (mem 35 45) p) 35 45 = mem 35 45 from (s2_a (by decide))]
              refine jblk hF [(.iload_n 2, 1)] (by decide +kernel) (pc' := 76) (lo' := [(0, (2, 35)), (1, (0, p)), (2, (0, n)), (3, (0, c)), (4, (0, am))]) (st' := [(0, n), (0, mem 35 45), (2, 64)]) rfl ?_
              refine jiast hF (by decide +kernel) (by decide) (by exact hS.k64) (by omega) (by have := hS.l64; omega) ?_
              refine jblk hF [(.aload_n 0, 1)] (by decide +kernel) (pc' := 78) (lo' := [(0, (2, 35)), (1, (0, p)), (2, (0, n)), (3, (0, c)), (4, (0, am))]) (st' := [(2, 35)]) rfl ?_
              refine jget hF 13 41 2 41 rfl (by decide) (by decide) rfl wd_1504 (by decide +kernel) (by exact hS.k35) ?_
              rw [SR.r41 (SR.s (SR.s hR (Or.inl (by decide))) (Or.inl (by decide)))]
              refine jblk hF [(.aload_n 0, 1)] (by decide +kernel) (pc' := 82) (lo' := [(0, (2, 35)), (1, (0, p)), (2, (0, n)), (3, (0, c)), (4, (0, am))]) (st' := [(2, 35), (2, 65)]) rfl ?_
              refine jget hF 13 45 0 45 rfl (by decide) (by decide) rfl wd_1508 (by decide +kernel) (by exact hS.k35) ?_
              rw [show (set2 (set2 mem 63 (mem 35 45) p) 64 (mem 35 45) n) 35 45 = mem 35 45 from ((s2_a (by decide)).trans (s2_a (by decide)))]
              refine jblk hF [(.iload_n 3, 1)] (by decide +kernel) (pc' := 86) (lo' := [(0, (2, 35)), (1, (0, p)), (2, (0, n)), (3, (0, c)), (4, (0, am))]) (st' := [(0, c), (0, mem 35 45), (2, 65)]) rfl ?_
              refine jiast hF (by decide +kernel) (by decide) (by exact hS.k65) (by omega) (by have := hS.l65; omega) ?_
              refine jblk hF [(.aload_n 0, 1)] (by decide +kernel) (pc' := 88) (lo' := [(0, (2, 35)), (1, (0, p)), (2, (0, n)), (3, (0, c)), (4, (0, am))]) (st' := [(2, 35)]) rfl ?_
              refine jget hF 13 42 2 42 rfl (by decide) (by decide) rfl wd_1505 (by decide +kernel) (by exact hS.k35) ?_
              rw [SR.r42 (SR.s (SR.s (SR.s hR (Or.inl (by decide))) (Or.inl (by decide))) (Or.inl (by decide)))]
              refine jblk hF [(.aload_n 0, 1)] (by decide +kernel) (pc' := 92) (lo' := [(0, (2, 35)), (1, (0, p)), (2, (0, n)), (3, (0, c)), (4, (0, am))]) (st' := [(2, 35), (2, 66)]) rfl ?_
              refine jget hF 13 45 0 45 rfl (by decide) (by decide) rfl wd_1508 (by decide +kernel) (by exact hS.k35) ?_
              rw [show (set2 (set2 (set2 mem 63 (mem 35 45) p) 64 (mem 35 45) n) 65 (mem 35 45) c) 35 45 = mem 35 45 from ((s2_a (by decide)).trans ((s2_a (by decide)).trans (s2_a (by decide))))]
              refine jblk hF [(.iload 4, 2)] (by decide +kernel) (pc' := 97) (lo' := [(0, (2, 35)), (1, (0, p)), (2, (0, n)), (3, (0, c)), (4, (0, am))]) (st' := [(0, am), (0, mem 35 45), (2, 66)]) rfl ?_
              refine jiast hF (by decide +kernel) (by decide) (by exact hS.k66) (by omega) (by have := hS.l66; omega) ?_
              refine jblk hF [(.aload_n 0, 1)] (by decide +kernel) (pc' := 99) (lo' := [(0, (2, 35)), (1, (0, p)), (2, (0, n)), (3, (0, c)), (4, (0, am))]) (st' := [(2, 35)]) rfl ?_
              refine jget hF 13 43 2 43 rfl (by decide) (by decide) rfl wd_1506 (by decide +kernel) (by exact hS.k35) ?_
              rw [SR.r43 (SR.s (SR.s (SR.s (SR.s hR (Or.inl (by decide))) (Or.inl (by decide))) (Or.inl (by decide))) (Or.inl (by decide)))]
              refine jblk hF [(.aload_n 0, 1)] (by decide +kernel) (pc' := 103) (lo' := [(0, (2, 35)), (1, (0, p)), (2, (0, n)), (3, (0, c)), (4, (0, am))]) (st' := [(2, 35), (2, 67)]) rfl ?_
              refine jget hF 13 45 0 45 rfl (by decide) (by decide) rfl wd_1508 (by decide +kernel) (by exact hS.k35) ?_
              rw [show (set2 (set2 (set2 (set2 mem 63 (mem 35 45) p) 64 (mem 35 45) n) 65 (mem 35 45) c) 66 (mem 35 45) am) 35 45 = mem 35 45 from ((s2_a (by decide)).trans ((s2_a (by decide)).trans ((s2_a (by decide)).trans (s2_a (by decide)))))]
              refine jblk hF [(.aload_n 0, 1)] (by decide +kernel) (pc' := 107) (lo' := [(0, (2, 35)), (1, (0, p)), (2, (0, n)), (3, (0, c)), (4, (0, am))]) (st' := [(2, 35), (0, mem 35 45), (2, 67)]) rfl ?_
              refine jget hF 13 0 0 0 rfl (by decide) (by decide) rfl wd_1463 (by decide +kernel) (by exact hS.k35) ?_
              rw [show (set2 (set2 (set2 (set2 mem 63 (mem 35 45) p) 64 (mem 35 45) n) 65 (mem 35 45) c) 66 (mem 35 45) am) 35 0 = mem 35 0 from ((s2_a (by decide)).trans ((s2_a (by decide)).trans ((s2_a (by decide)).trans (s2_a (by decide)))))]
              refine jiast hF (by decide +kernel) (by decide) (by exact hS.k67) (by omega) (by have := hS.l67; omega) ?_
              refine jblk hF [(.aload_n 0, 1)] (by decide +kernel) (pc' := 112) (lo' := [(0, (2, 35)), (1, (0, p)), (2, (0, n)), (3, (0, c)), (4, (0, am))]) (st' := [(2, 35)]) rfl ?_
              refine jget hF 13 44 2 44 rfl (by decide) (by decide) rfl wd_1507 (by decide +kernel) (by exact hS.k35) ?_
              rw [SR.r44 (SR.s (SR.s (SR.s (SR.s (SR.s hR (Or.inl (by decide))) (Or.inl (by decide))) (Or.inl (by decide))) (Or.inl (by decide))) (Or.inl (by decide)))]
              refine jblk hF [(.aload_n 0, 1)] (by decide +kernel) (pc' := 116) (lo' := [(0, (2, 35)), (1, (0, p)), (2, (0, n)), (3, (0, c)), (4, (0, am))]) (st' := [(2, 35), (2, 68)]) rfl ?_
              refine jget hF 13 45 0 45 rfl (by decide) (by decide) rfl wd_1508 (by decide +kernel) (by exact hS.k35) ?_
              rw [show (set2 (set2 (set2 (set2 (set2 mem 63 (mem 35 45) p) 64 (mem 35 45) n) 65 (mem 35 45) c) 66 (mem 35 45) am) 67 (mem 35 45) (mem 35 0)) 35 45 = mem 35 45 from ((s2_a (by decide)).trans ((s2_a (by decide)).trans ((s2_a (by decide)).trans ((s2_a (by decide)).trans (s2_a (by decide))))))]
              refine jblk hF [(.iconst (-1), 1)] (by decide +kernel) (pc' := 120) (lo' := [(0, (2, 35)), (1, (0, p)), (2, (0, n)), (3, (0, c)), (4, (0, am))]) (st' := [(0, (-1)), (0, mem 35 45), (2, 68)]) rfl ?_
              refine jiast hF (by decide +kernel) (by decide) (by exact hS.k68) (by omega) (by have := hS.l68; omega) ?_
              refine jblk hF [(.aload_n 0, 1), (.dup, 1)] (by decide +kernel) (pc' := 123) (lo' := [(0, (2, 35)), (1, (0, p)), (2, (0, n)), (3, (0, c)), (4, (0, am))]) (st' := [(2, 35), (2, 35)]) rfl ?_
              refine jget hF 13 45 0 45 rfl (by decide) (by decide) rfl wd_1508 (by decide +kernel) (by exact hS.k35) ?_
              rw [show (set2 (set2 (set2 (set2 (set2 (set2 mem 63 (mem 35 45) p) 64 (mem 35 45) n) 65 (mem 35 45) c) 66 (mem 35 45) am) 67 (mem 35 45) (mem 35 0)) 68 (mem 35 45) (-1)) 35 45 = mem 35 45 from ((s2_a (by decide)).trans ((s2_a (by decide)).trans ((s2_a (by decide)).trans ((s2_a (by decide)).trans ((s2_a (by decide)).trans (s2_a (by decide)))))))]
              refine jblk hF [(.iconst 1, 1), (.iadd, 1)] (by decide +kernel) (pc' := 128) (lo' := [(0, (2, 35)), (1, (0, p)), (2, (0, n)), (3, (0, c)), (4, (0, am))]) (st' := [(0, (mem 35 45) + 1), (2, 35)]) rfl ?_
              refine jput hF 13 45 0 45 rfl (by decide) (by decide) rfl wd_1508 (by decide +kernel) rfl (Or.inl rfl) (by exact hS.k35) (fun h => by cases h) ?_
              refine jblk hF [(.aload_n 0, 1)] (by decide +kernel) (pc' := 132) (lo' := [(0, (2, 35)), (1, (0, p)), (2, (0, n)), (3, (0, c)), (4, (0, am))]) (st' := [(2, 35)]) rfl ?_
              refine jget hF 13 45 0 45 rfl (by decide) (by decide) rfl wd_1508 (by decide +kernel) (by exact hS.k35) ?_
              rw [show (set2 (set2 (set2 (set2 (set2 (set2 (set2 mem 63 (mem 35 45) p) 64 (mem 35 45) n) 65 (mem 35 45) c) 66 (mem 35 45) am) 67 (mem 35 45) (mem 35 0)) 68 (mem 35 45) (-1)) 35 45 ((mem 35 45) + 1)) 35 45 = (mem 35 45) + 1 from s2_s]
              refine jblk hF [(.iconst 1, 1), (.isub, 1)] (by decide +kernel) (pc' := 137) (lo' := [(0, (2, 35)), (1, (0, p)), (2, (0, n)), (3, (0, c)), (4, (0, am))]) (st' := [(0, ((mem 35 45) + 1) - 1)]) rfl ?_
              refine jiret hF hr (by decide +kernel) ?_
              exact lMR ⟨(SR.s (SR.s (SR.s (SR.s (SR.s (SR.s (SR.s hR (Or.inl (by decide))) (Or.inl (by decide))) (Or.inl (by decide))) (Or.inl (by decide))) (Or.inl (by decide))) (Or.inl (by decide))) (Or.inr (by decide))), by first | exact ⟨fun h => absurd h (by omega), fun _ => ⟨rfl, rfl⟩⟩ | exact ⟨fun _ => ⟨by omega, rfl⟩, fun h => absurd (by omega) h⟩⟩
            · refine jblk hF [(.iconst (-1), 1)] (by decide +kernel) (pc' := 56) (lo' := [(0, (2, 35)), (1, (0, p)), (2, (0, n)), (3, (0, c)), (4, (0, am))]) (st' := [(0, (-1))]) rfl ?_
              refine jiret hF hr (by decide +kernel) ?_
              exact lMR ⟨hR, by first | exact ⟨fun h => absurd h (by omega), fun _ => ⟨rfl, rfl⟩⟩ | exact ⟨fun _ => ⟨by omega, rfl⟩, fun h => absurd (by omega) h⟩⟩
        · refine jif_eq hF (off := 17) 55 (by decide +kernel) (by decide) (by decide) (fun _ => ?_) (fun h => absurd h (by decide))
          refine jblk hF [(.iconst (-1), 1)] (by decide +kernel) (pc' := 56) (lo' := [(0, (2, 35)), (1, (0, p)), (2, (0, n)), (3, (0, c)), (4, (0, am))]) (st' := [(0, (-1))]) rfl ?_
          refine jiret hF hr (by decide +kernel) ?_
          exact lMR ⟨hR, by first | exact ⟨fun h => absurd h (by omega), fun _ => ⟨rfl, rfl⟩⟩ | exact ⟨fun _ => ⟨by omega, rfl⟩, fun h => absurd (by omega) h⟩⟩
      · refine jif_eq hF (off := 31) 55 (by decide +kernel) (by decide) (by decide) (fun _ => ?_) (fun h => absurd h (by decide))
        refine jblk hF [(.iconst (-1), 1)] (by decide +kernel) (pc' := 56) (lo' := [(0, (2, 35)), (1, (0, p)), (2, (0, n)), (3, (0, c)), (4, (0, am))]) (st' := [(0, (-1))]) rfl ?_
        refine jiret hF hr (by decide +kernel) ?_
        exact lMR ⟨hR, by first | exact ⟨fun h => absurd h (by omega), fun _ => ⟨rfl, rfl⟩⟩ | exact ⟨fun _ => ⟨by omega, rfl⟩, fun h => absurd (by omega) h⟩⟩
    · refine jif_eq hF (off := 40) 55 (by decide +kernel) (by decide) (by decide) (fun _ => ?_) (fun h => absurd h (by decide))
      refine jblk hF [(.iconst (-1), 1)] (by decide +kernel) (pc' := 56) (lo' := [(0, (2, 35)), (1, (0, p)), (2, (0, n)), (3, (0, c)), (4, (0, am))]) (st' := [(0, (-1))]) rfl ?_
      refine jiret hF hr (by decide +kernel) ?_
      exact lMR ⟨hR, by first | exact ⟨fun h => absurd h (by omega), fun _ => ⟨rfl, rfl⟩⟩ | exact ⟨fun _ => ⟨by omega, rfl⟩, fun h => absurd (by omega) h⟩⟩
  · refine jif_eq hF (off := 49) 55 (by decide +kernel) (by decide) (by decide) (fun _ => ?_) (fun h => absurd h (by decide))
    refine jblk hF [(.iconst (-1), 1)] (by decide +kernel) (pc' := 56) (lo' := [(0, (2, 35)), (1, (0, p)), (2, (0, n)), (3, (0, c)), (4, (0, am))]) (st' := [(0, (-1))]) rfl ?_
    refine jiret hF hr (by decide +kernel) ?_
    exact lMR ⟨hR, by first | exact ⟨fun h => absurd h (by omega), fun _ => ⟨rfl, rfl⟩⟩ | exact ⟨fun _ => ⟨by omega, rfl⟩, fun h => absurd (by omega) h⟩⟩
set_option maxHeartbeats 4000000 in
set_option maxRecDepth 100000 in
theorem c_X12_mend {l : Launch} {g : GP} (hG : GH g) {kd : Int → Nat} {ln : Int → Int} {mem : Int → Int → Int} {sz : Nat} (hS : SK kd ln) (hR : SR mem) (s : Int) (h_s : InI s) (hSL : SLS mem) (h0 : 0 ≤ mem 35 0 ∧ mem 35 0 ≤ 1000) : MT l g yX12_mend cX12_mend 2 (some .boolean) 1 0 0 [(2, 35), (0, s)] kd ln mem sz (pMB (fun c mem' => SR mem' ∧ ((c ↔ mendC mem s) ∧ mem' = (if mendC mem s then set2 mem 68 s (mem 35 0) else mem))) kd ln sz) := by
  refine MT_of hG (by decide +kernel) (Nat.le_of_ble_eq_true rfl) (fun z hF hr hn => ?_)
  refine jblk hF [(.iload_n 1, 1), (.iconst 0, 1), (.aload_n 0, 1)] (by decide +kernel) (pc' := 3) (lo' := [(0, (2, 35)), (1, (0, s))]) (st' := [(2, 35), (0, 0), (0, s)]) rfl ?_
  refine jget hF 13 45 0 45 rfl (by decide) (by decide) rfl wd_1508 (by decide +kernel) (by exact hS.k35) ?_
  refine jblk hF [(.iconst 1, 1), (.isub, 1)] (by decide +kernel) (pc' := 8) (lo' := [(0, (2, 35)), (1, (0, s))]) (st' := [(0, (mem 35 45) - 1), (0, 0), (0, s)]) rfl ?_
  refine jcallS hF (c_X12_in hG s 0 ((mem 35 45) - 1) (by omega) (by decide) (by omega)) MW_X12_in wd_1743 wd_1744 (by decide +kernel) [] rfl rfl (by decide) (Nat.le_of_ble_eq_true rfl) (by decide) (kB (fun h_1 => ?_) (fun h_1 => ?_))
  · refine jif_eq hF (off := 13) 24 (by decide +kernel) (by decide) (by decide) (fun h => absurd h (by decide)) (fun _ => ?_)
    have hs := hSL.2.2 s (by omega) (by omega)
    refine jblk hF [(.aload_n 0, 1)] (by decide +kernel) (pc' := 15) (lo' := [(0, (2, 35)), (1, (0, s))]) (st' := [(2, 35)]) rfl ?_
    refine jget hF 13 44 2 44 rfl (by decide) (by decide) rfl wd_1507 (by decide +kernel) (by exact hS.k35) ?_
    rw [SR.r44 hR]
    refine jblk hF [(.iload_n 1, 1)] (by decide +kernel) (pc' := 19) (lo' := [(0, (2, 35)), (1, (0, s))]) (st' := [(0, s), (2, 68)]) rfl ?_
    refine jiald hF (by decide +kernel) (by exact hS.k68) (by omega) (by have := hS.l68; omega) ?_
    refine jblk hF [(.iconst (-1), 1)] (by decide +kernel) (pc' := 21) (lo' := [(0, (2, 35)), (1, (0, s))]) (st' := [(0, (-1)), (0, mem 68 s)]) rfl ?_
    refine jicmp_eq hF (off := 5) 26 (by decide +kernel) (by decide) (by omega) (by decide) (fun h_3 => ?_) (fun h_3 => ?_)
    · refine jblk hF [(.aload_n 0, 1)] (by decide +kernel) (pc' := 27) (lo' := [(0, (2, 35)), (1, (0, s))]) (st' := [(2, 35)]) rfl ?_
      refine jget hF 13 44 2 44 rfl (by decide) (by decide) rfl wd_1507 (by decide +kernel) (by exact hS.k35) ?_
      rw [SR.r44 hR]
      refine jblk hF [(.iload_n 1, 1), (.aload_n 0, 1)] (by decide +kernel) (pc' := 32) (lo' := [(0, (2, 35)), (1, (0, s))]) (st' := [(2, 35), (0, s), (2, 68)]) rfl ?_
      refine jget hF 13 0 0 0 rfl (by decide) (by decide) rfl wd_1463 (by decide +kernel) (by exact hS.k35) ?_
      refine jiast hF (by decide +kernel) (by decide) (by exact hS.k68) (by omega) (by have := hS.l68; omega) ?_
      refine jblk hF [(.iconst 1, 1)] (by decide +kernel) (pc' := 37) (lo' := [(0, (2, 35)), (1, (0, s))]) (st' := [(0, 1)]) rfl ?_
      refine jzret hF hr (by omega) (by decide +kernel) ?_
      exact lMB1 ⟨(SR.s hR (Or.inl (by decide))), by first | exact ⟨⟨fun h => h.elim, fun h => absurd h (by omega)⟩, (if_neg (by omega)).symm⟩ | exact ⟨⟨fun _ => by omega, fun _ => trivial⟩, (if_pos (by omega)).symm⟩⟩
    · refine jblk hF [(.iconst 0, 1)] (by decide +kernel) (pc' := 25) (lo' := [(0, (2, 35)), (1, (0, s))]) (st' := [(0, 0)]) rfl ?_
      refine jzret hF hr (by omega) (by decide +kernel) ?_
      exact lMB0 ⟨hR, by first | exact ⟨⟨fun h => h.elim, fun h => absurd h (by omega)⟩, (if_neg (by omega)).symm⟩ | exact ⟨⟨fun _ => by omega, fun _ => trivial⟩, (if_pos (by omega)).symm⟩⟩
  · refine jif_eq hF (off := 13) 24 (by decide +kernel) (by decide) (by decide) (fun _ => ?_) (fun h => absurd h (by decide))
    refine jblk hF [(.iconst 0, 1)] (by decide +kernel) (pc' := 25) (lo' := [(0, (2, 35)), (1, (0, s))]) (st' := [(0, 0)]) rfl ?_
    refine jzret hF hr (by omega) (by decide +kernel) ?_
    exact lMB0 ⟨hR, by first | exact ⟨⟨fun h => h.elim, fun h => absurd h (by omega)⟩, (if_neg (by omega)).symm⟩ | exact ⟨⟨fun _ => by omega, fun _ => trivial⟩, (if_pos (by omega)).symm⟩⟩
set_option maxHeartbeats 4000000 in
set_option maxRecDepth 100000 in
theorem c_X12_trueNumber {l : Launch} {g : GP} (hG : GH g) {kd : Int → Nat} {ln : Int → Int} {mem : Int → Int → Int} {sz : Nat} (hS : SK kd ln) (hR : SR mem) (p n : Int) (hp : PG mem p) (hn1 : 0 ≤ n ∧ n < mem 47 p) : MT l g yX12_trueNumber cX12_trueNumber 3 (some .long) 6 0 0 [(2, 35), (0, p), (0, n)] kd ln mem sz (pMR 1 (fun v mem' => SR mem' ∧ (v = numT mem p n ∧ FR mem mem')) kd ln sz) := by
  refine MT_of hG (by decide +kernel) (Nat.le_of_ble_eq_true rfl) (fun z hF hr hn => ?_)
  refine jblk hF [(.aload_n 0, 1), (.iload_n 1, 1)] (by decide +kernel) (pc' := 2) (lo' := [(0, (2, 35)), (1, (0, p)), (2, (0, n))]) (st' := [(0, p), (2, 35)]) rfl ?_
  refine jcallV hF (c_X12_makeTrue hG hS hR p (by first | omega | exact hE.fPG hp | exact (EQ36.f _ _).fPG hp)) MW_X12_makeTrue 13 (by decide) (by exact hS.k35) wd_1984 wd_1986 wd_p80 (by decide +kernel) [] rfl rfl (by decide) (Nat.le_of_ble_eq_true rfl) (by decide) (kMV (fun m_1 h_2 => ?_))
  obtain ⟨hR_m_1, h_2⟩ := h_2
  have hK := h_2
  refine jblk hF [(.aload_n 0, 1)] (by decide +kernel) (pc' := 6) (lo' := [(0, (2, 35)), (1, (0, p)), (2, (0, n))]) (st' := [(2, 35)]) rfl ?_
  refine jget hF 13 37 2 37 rfl (by decide) (by decide) rfl wd_1500 (by decide +kernel) (by exact hS.k35) ?_
  rw [SR.r37 hR_m_1]
  refine jblk hF [(.iload_n 2, 1)] (by decide +kernel) (pc' := 10) (lo' := [(0, (2, 35)), (1, (0, p)), (2, (0, n))]) (st' := [(0, n), (2, 61)]) rfl ?_
  refine jlald hF (by decide +kernel) (by exact hS.k61) (by omega) (by have := hS.l61; omega) ?_
  refine jlret hF hr (by decide +kernel) ?_
  exact lMR ⟨hR_m_1, by exact ⟨hK.2.1 n (by omega) (by omega), hK.1⟩⟩
set_option maxHeartbeats 4000000 in
set_option maxRecDepth 100000 in
theorem c_X12_trueOf {l : Launch} {g : GP} (hG : GH g) {kd : Int → Nat} {ln : Int → Int} {mem : Int → Int → Int} {sz : Nat} (hS : SK kd ln) (hR : SR mem) (p n : Int) (h_p : InI p) (h_n : InI n) (hPS : PGS mem) : MT l g yX12_trueOf cX12_trueOf 3 (some .long) 7 0 0 [(2, 35), (0, p), (0, n)] kd ln mem sz (pMR 1 (fun v mem' => SR mem' ∧ (((isLn mem p n) → v = numT mem p n ∧ FR (thr mem 0) mem') ∧ (¬ (isLn mem p n) → v = 0 ∧ mem' = thr mem 1))) kd ln sz) := by
  refine MT_of hG (by decide +kernel) (Nat.le_of_ble_eq_true rfl) (fun z hF hr hn => ?_)
  refine jblk hF [(.aload_n 0, 1), (.aload_n 0, 1), (.iload_n 1, 1), (.iload_n 2, 1)] (by decide +kernel) (pc' := 4) (lo' := [(0, (2, 35)), (1, (0, p)), (2, (0, n))]) (st' := [(0, n), (0, p), (2, 35), (2, 35)]) rfl ?_
  refine jcallV hF (c_X12_isLine hG hS hR p n (by omega) (by omega) (by exact hPS)) MW_X12_isLine 13 (by decide) (by exact hS.k35) wd_1954 wd_1956 wd_p76 (by decide +kernel) [(2, 35)] rfl rfl (by decide) (Nat.le_of_ble_eq_true rfl) (by decide) (kB (fun h_1 => ?_) (fun h_1 => ?_))
  · refine jif_eq hF (off := 7) 14 (by decide +kernel) (by decide) (by decide) (fun h => absurd h (by decide)) (fun _ => ?_)
    have hp := hPS.2.2 p (by omega) (by omega)
    refine jblk hF [(.iconst 0, 1)] (by decide +kernel) (pc' := 11) (lo' := [(0, (2, 35)), (1, (0, p)), (2, (0, n))]) (st' := [(0, 0), (2, 35)]) rfl ?_
    refine jgoto hF (off := 4) 15 (by decide +kernel) (by decide) ?_
    refine jput hF 13 1 0 1 rfl (by decide) (by decide) rfl wd_1464 (by decide +kernel) rfl (Or.inl rfl) (by exact hS.k35) (fun h => by cases h) ?_
    refine jblk hF [(.aload_n 0, 1)] (by decide +kernel) (pc' := 19) (lo' := [(0, (2, 35)), (1, (0, p)), (2, (0, n))]) (st' := [(2, 35)]) rfl ?_
    refine jget hF 13 1 0 1 rfl (by decide) (by decide) rfl wd_1464 (by decide +kernel) (by exact hS.k35) ?_
    rw [show (set2 mem 35 1 0) 35 1 = 0 from s2_s]
    refine jblk hF [(.iconst 1, 1)] (by decide +kernel) (pc' := 23) (lo' := [(0, (2, 35)), (1, (0, p)), (2, (0, n))]) (st' := [(0, 1), (0, 0)]) rfl ?_
    refine jicmp_ne hF (off := 7) 30 (by decide +kernel) (by decide) (by decide) (by decide) (fun _ => ?_) (fun h => absurd h (by decide))
    refine jblk hF [(.aload_n 0, 1), (.iload_n 1, 1), (.iload_n 2, 1)] (by decide +kernel) (pc' := 33) (lo' := [(0, (2, 35)), (1, (0, p)), (2, (0, n))]) (st' := [(0, n), (0, p), (2, 35)]) rfl ?_
    refine jcallV hF (c_X12_trueNumber hG hS (SR.s hR (Or.inr (by decide))) p n (by first | omega | exact hE.fPG hp | exact (EQ36.f _ _).fPG hp) (by first | omega | (have e9 := (EQ36.f 1 0 : EQ36 mem _).at 47 (by decide); rw [e9]; omega))) MW_X12_trueNumber 13 (by decide) (by exact hS.k35) wd_1980 wd_1982 wd_p79 (by decide +kernel) [] rfl rfl (by decide) (Nat.le_of_ble_eq_true rfl) (by decide) (kMR (fun v_6 m_4 h_5 => ?_))
    obtain ⟨hR_m_4, h_5⟩ := h_5
    have hK := h_5
    refine jlret hF hr (by decide +kernel) ?_
    exact lMR ⟨hR_m_4, by first | exact ⟨fun h => absurd h (by omega), fun _ => ⟨rfl, rfl⟩⟩ | exact ⟨fun _ => ⟨by rw [hK.1]; exact (EQ36.f _ _).fnumT _ _, hK.2⟩, fun h => absurd (by omega) h⟩⟩
  · refine jif_eq hF (off := 7) 14 (by decide +kernel) (by decide) (by decide) (fun _ => ?_) (fun h => absurd h (by decide))
    refine jblk hF [(.iconst 1, 1)] (by decide +kernel) (pc' := 15) (lo' := [(0, (2, 35)), (1, (0, p)), (2, (0, n))]) (st' := [(0, 1), (2, 35)]) rfl ?_
    refine jput hF 13 1 0 1 rfl (by decide) (by decide) rfl wd_1464 (by decide +kernel) rfl (Or.inl rfl) (by exact hS.k35) (fun h => by cases h) ?_
    refine jblk hF [(.aload_n 0, 1)] (by decide +kernel) (pc' := 19) (lo' := [(0, (2, 35)), (1, (0, p)), (2, (0, n))]) (st' := [(2, 35)]) rfl ?_
    refine jget hF 13 1 0 1 rfl (by decide) (by decide) rfl wd_1464 (by decide +kernel) (by exact hS.k35) ?_
    rw [show (set2 mem 35 1 1) 35 1 = 1 from s2_s]
    refine jblk hF [(.iconst 1, 1)] (by decide +kernel) (pc' := 23) (lo' := [(0, (2, 35)), (1, (0, p)), (2, (0, n))]) (st' := [(0, 1), (0, 1)]) rfl ?_
    refine jicmp_ne hF (off := 7) 30 (by decide +kernel) (by decide) (by decide) (by decide) (fun h => absurd h (by decide)) (fun _ => ?_)
    refine jlconst hF (n := 0) 0 rfl (by decide +kernel) ?_
    refine jgoto hF (off := 9) 36 (by decide +kernel) (by decide) ?_
    refine jlret hF hr (by decide +kernel) ?_
    exact lMR ⟨(SR.s hR (Or.inr (by decide))), by first | exact ⟨fun h => absurd h (by omega), fun _ => ⟨rfl, rfl⟩⟩ | exact ⟨fun _ => ⟨by rw [hK.1]; exact (EQ36.f _ _).fnumT _ _, hK.2⟩, fun h => absurd (by omega) h⟩⟩
set_option maxHeartbeats 4000000 in
set_option maxRecDepth 100000 in
theorem c_X12_figure {l : Launch} {g : GP} (hG : GH g) {kd : Int → Nat} {ln : Int → Int} {mem : Int → Int → Int} {sz : Nat} (hS : SK kd ln) (hR : SR mem) (p n c q : Int) (h_p : InI p) (h_n : InI n) (h_c : InI c) (h_q : InI q) (hPS : PGS mem) (hSL : SLS mem) (h0 : 0 ≤ mem 35 0 ∧ mem 35 0 ≤ 1000) : MT l g yX12_figure cX12_figure 6 (some .long) 6 0 0 [(2, 35), (0, p), (0, n), (0, c), (0, q)] kd ln mem sz (pMR 1 (fun v mem' => SR mem' ∧ (((figC mem p n c q) → v = (if c = 9 then numQ mem p n q else colQ mem p n c q) ∧ FR (thr mem 0) mem') ∧ (¬ (figC mem p n c q) → v = 0 ∧ mem' = thr mem 1))) kd ln sz) := by
  refine MT_of hG (by decide +kernel) (Nat.le_of_ble_eq_true rfl) (fun z hF hr hn => ?_)
  refine jblk hF [(.aload_n 0, 1), (.iload_n 1, 1), (.iload_n 2, 1)] (by decide +kernel) (pc' := 3) (lo' := [(0, (2, 35)), (1, (0, p)), (2, (0, n)), (3, (0, c)), (4, (0, q))]) (st' := [(0, n), (0, p), (2, 35)]) rfl ?_
  refine jcallV hF (c_X12_isLine hG hS hR p n (by omega) (by omega) (by exact hPS)) MW_X12_isLine 13 (by decide) (by exact hS.k35) wd_1954 wd_1956 wd_p76 (by decide +kernel) [] rfl rfl (by decide) (Nat.le_of_ble_eq_true rfl) (by decide) (kB (fun h_1 => ?_) (fun h_1 => ?_))
  · refine jif_eq hF (off := 51) 57 (by decide +kernel) (by decide) (by decide) (fun h => absurd h (by decide)) (fun _ => ?_)
    have hp := hPS.2.2 p (by omega) (by omega)
    refine jblk hF [(.aload_n 0, 1), (.iload 4, 2)] (by decide +kernel) (pc' := 12) (lo' := [(0, (2, 35)), (1, (0, p)), (2, (0, n)), (3, (0, c)), (4, (0, q))]) (st' := [(0, q), (2, 35)]) rfl ?_
    refine jcallV hF (c_X12_isKnowing hG hS hR q (by omega) (by omega)) MW_X12_isKnowing 13 (by decide) (by exact hS.k35) wd_2004 wd_2006 wd_p84 (by decide +kernel) [] rfl rfl (by decide) (Nat.le_of_ble_eq_true rfl) (by decide) (kB (fun h_3 => ?_) (fun h_3 => ?_))
    · refine jif_eq hF (off := 42) 57 (by decide +kernel) (by decide) (by decide) (fun h => absurd h (by decide)) (fun _ => ?_)
      refine jblk hF [(.iload_n 3, 1), (.bipush 9, 2)] (by decide +kernel) (pc' := 21) (lo' := [(0, (2, 35)), (1, (0, p)), (2, (0, n)), (3, (0, c)), (4, (0, q))]) (st' := [(0, 9), (0, c)]) rfl ?_
      refine jicmp_eq hF (off := 32) 53 (by decide +kernel) (by decide) (by omega) (by decide) (fun h_5 => ?_) (fun h_5 => ?_)
      · refine jblk hF [(.iconst 1, 1)] (by decide +kernel) (pc' := 54) (lo' := [(0, (2, 35)), (1, (0, p)), (2, (0, n)), (3, (0, c)), (4, (0, q))]) (st' := [(0, 1)]) rfl ?_
        refine jgoto hF (off := 4) 58 (by decide +kernel) (by decide) ?_
        refine jblk hF [(.istore 5, 2), (.aload_n 0, 1), (.iload 5, 2)] (by decide +kernel) (pc' := 63) (lo' := [(5, (0, 1)), (0, (2, 35)), (1, (0, p)), (2, (0, n)), (3, (0, c)), (4, (0, q))]) (st' := [(0, 1), (2, 35)]) rfl ?_
        refine jif_eq hF (off := 7) 70 (by decide +kernel) (by decide) (by decide) (fun h => absurd h (by decide)) (fun _ => ?_)
        refine jblk hF [(.iconst 0, 1)] (by decide +kernel) (pc' := 67) (lo' := [(5, (0, 1)), (0, (2, 35)), (1, (0, p)), (2, (0, n)), (3, (0, c)), (4, (0, q))]) (st' := [(0, 0), (2, 35)]) rfl ?_
        refine jgoto hF (off := 4) 71 (by decide +kernel) (by decide) ?_
        refine jput hF 13 1 0 1 rfl (by decide) (by decide) rfl wd_1464 (by decide +kernel) rfl (Or.inl rfl) (by exact hS.k35) (fun h => by cases h) ?_
        refine jblk hF [(.iload 5, 2)] (by decide +kernel) (pc' := 76) (lo' := [(5, (0, 1)), (0, (2, 35)), (1, (0, p)), (2, (0, n)), (3, (0, c)), (4, (0, q))]) (st' := [(0, 1)]) rfl ?_
        refine jif_ne hF (off := 5) 81 (by decide +kernel) (by decide) (by decide) (fun _ => ?_) (fun h => absurd h (by decide))
        refine jblk hF [(.aload_n 0, 1), (.iload_n 1, 1), (.iload 4, 2)] (by decide +kernel) (pc' := 85) (lo' := [(5, (0, 1)), (0, (2, 35)), (1, (0, p)), (2, (0, n)), (3, (0, c)), (4, (0, q))]) (st' := [(0, q), (0, p), (2, 35)]) rfl ?_
        refine jcallV hF (c_X12_makeAs hG hS (SR.s hR (Or.inr (by decide))) p q (by first | omega | exact hE.fPG hp | exact (EQ36.f _ _).fPG hp) (by first | exact hSL | exact (EQ36.f _ _).fSLS (s2_k (by decide)) (s2_k (by decide)) (s2_k (by decide)) hSL) (by first | omega | (rw [show (set2 mem 35 1 0) 35 33 = mem 35 33 from s2_k (by decide)]; omega) | (rw [show (set2 mem 35 1 0) 35 0 = mem 35 0 from s2_k (by decide)]; omega)) (by omega) (by first | omega | (rw [show (set2 mem 35 1 0) 35 33 = mem 35 33 from s2_k (by decide)]; omega) | (rw [show (set2 mem 35 1 0) 35 0 = mem 35 0 from s2_k (by decide)]; omega))) MW_X12_makeAs 13 (by decide) (by exact hS.k35) wd_2008 wd_2010 wd_p85 (by decide +kernel) [] rfl rfl (by decide) (Nat.le_of_ble_eq_true rfl) (by decide) (kMV (fun m_8 h_9 => ?_))
        obtain ⟨hR_m_8, h_9⟩ := h_9
        have hK := h_9
        have e47 := (EQ36.f 1 0 : EQ36 mem _).at 47 (by decide)
        have e49 := (EQ36.f 1 0 : EQ36 mem _).at 49 (by decide)
        have e52 := (EQ36.f 1 0 : EQ36 mem _).at 52 (by decide)
        have hQ := (EQ36.f 1 0 : EQ36 mem _).fnumQ (s2_k (by decide)) p n q
        have hC := (EQ36.f 1 0 : EQ36 mem _).fcolQ (s2_k (by decide)) p n c q
        refine jblk hF [(.iload_n 3, 1), (.bipush 9, 2)] (by decide +kernel) (pc' := 91) (lo' := [(5, (0, 1)), (0, (2, 35)), (1, (0, p)), (2, (0, n)), (3, (0, c)), (4, (0, q))]) (st' := [(0, 9), (0, c)]) rfl ?_
        refine jicmp_ne hF (off := 12) 103 (by decide +kernel) (by decide) (by omega) (by decide) (fun h_10 => ?_) (fun h_10 => ?_)
        · refine jblk hF [(.aload_n 0, 1)] (by decide +kernel) (pc' := 104) (lo' := [(5, (0, 1)), (0, (2, 35)), (1, (0, p)), (2, (0, n)), (3, (0, c)), (4, (0, q))]) (st' := [(2, 35)]) rfl ?_
          refine jget hF 13 36 2 36 rfl (by decide) (by decide) rfl wd_1499 (by decide +kernel) (by exact hS.k35) ?_
          rw [SR.r36 hR_m_8]
          refine jblk hF [(.iconst 5, 1), (.iload_n 2, 1), (.imul, 1), (.iload_n 3, 1), (.iadd, 1)] (by decide +kernel) (pc' := 112) (lo' := [(5, (0, 1)), (0, (2, 35)), (1, (0, p)), (2, (0, n)), (3, (0, c)), (4, (0, q))]) (st' := [(0, (5 * n) + c), (2, 60)]) rfl ?_
          refine jlald hF (by decide +kernel) (by exact hS.k60) (by omega) (by have := hS.l60; omega) ?_
          refine jlret hF hr (by decide +kernel) ?_
          exact lMR ⟨hR_m_8, by first | exact ⟨fun h => absurd h (by omega), fun _ => ⟨rfl, rfl⟩⟩ | exact ⟨fun _ => ⟨by rw [if_pos (by omega), ← hQ]; exact hK.2.1 n (by omega) (by rw [e47]; omega), hK.1⟩, fun h => absurd (by omega) h⟩ | exact ⟨fun _ => ⟨by rw [if_neg (by omega), ← hC]; exact hK.2.2 n c (by omega) (by rw [e47]; omega) (by rw [e49, e52]; omega) (by omega) (by rw [e49]; omega), hK.1⟩, fun h => absurd (by omega) h⟩⟩
        · refine jblk hF [(.aload_n 0, 1)] (by decide +kernel) (pc' := 95) (lo' := [(5, (0, 1)), (0, (2, 35)), (1, (0, p)), (2, (0, n)), (3, (0, c)), (4, (0, q))]) (st' := [(2, 35)]) rfl ?_
          refine jget hF 13 37 2 37 rfl (by decide) (by decide) rfl wd_1500 (by decide +kernel) (by exact hS.k35) ?_
          rw [SR.r37 hR_m_8]
          refine jblk hF [(.iload_n 2, 1)] (by decide +kernel) (pc' := 99) (lo' := [(5, (0, 1)), (0, (2, 35)), (1, (0, p)), (2, (0, n)), (3, (0, c)), (4, (0, q))]) (st' := [(0, n), (2, 61)]) rfl ?_
          refine jlald hF (by decide +kernel) (by exact hS.k61) (by omega) (by have := hS.l61; omega) ?_
          refine jgoto hF (off := 13) 113 (by decide +kernel) (by decide) ?_
          refine jlret hF hr (by decide +kernel) ?_
          exact lMR ⟨hR_m_8, by first | exact ⟨fun h => absurd h (by omega), fun _ => ⟨rfl, rfl⟩⟩ | exact ⟨fun _ => ⟨by rw [if_pos (by omega), ← hQ]; exact hK.2.1 n (by omega) (by rw [e47]; omega), hK.1⟩, fun h => absurd (by omega) h⟩ | exact ⟨fun _ => ⟨by rw [if_neg (by omega), ← hC]; exact hK.2.2 n c (by omega) (by rw [e47]; omega) (by rw [e49, e52]; omega) (by omega) (by rw [e49]; omega), hK.1⟩, fun h => absurd (by omega) h⟩⟩
      · refine jblk hF [(.iload_n 3, 1), (.iconst 0, 1), (.aload_n 0, 1)] (by decide +kernel) (pc' := 27) (lo' := [(0, (2, 35)), (1, (0, p)), (2, (0, n)), (3, (0, c)), (4, (0, q))]) (st' := [(2, 35), (0, 0), (0, c)]) rfl ?_
        refine jget hF 13 24 2 24 rfl (by decide) (by decide) rfl wd_1487 (by decide +kernel) (by exact hS.k35) ?_
        rw [SR.r24 hR]
        refine jblk hF [(.iload_n 1, 1)] (by decide +kernel) (pc' := 31) (lo' := [(0, (2, 35)), (1, (0, p)), (2, (0, n)), (3, (0, c)), (4, (0, q))]) (st' := [(0, p), (2, 49), (0, 0), (0, c)]) rfl ?_
        refine jiald hF (by decide +kernel) (by exact hS.k49) (by omega) (by have := hS.l49; omega) ?_
        refine jcallS hF (c_X12_in hG c 0 (mem 49 p) (by omega) (by decide) (by omega)) MW_X12_in wd_1743 wd_1744 (by decide +kernel) [] rfl rfl (by decide) (Nat.le_of_ble_eq_true rfl) (by decide) (kB (fun h_11 => ?_) (fun h_11 => ?_))
        · refine jif_eq hF (off := 22) 57 (by decide +kernel) (by decide) (by decide) (fun h => absurd h (by decide)) (fun _ => ?_)
          refine jblk hF [(.aload_n 0, 1), (.iload_n 1, 1), (.iload_n 2, 1)] (by decide +kernel) (pc' := 41) (lo' := [(0, (2, 35)), (1, (0, p)), (2, (0, n)), (3, (0, c)), (4, (0, q))]) (st' := [(0, n), (0, p), (2, 35)]) rfl ?_
          refine jcallV hF (c_X12_placeOf hG hS hR p n (by first | omega | exact hE.fPG hp | exact (EQ36.f _ _).fPG hp) (by omega)) MW_X12_placeOf 13 (by decide) (by exact hS.k35) wd_1946 wd_1948 wd_p75 (by decide +kernel) [] rfl rfl (by decide) (Nat.le_of_ble_eq_true rfl) (by decide) (kV ?_)
          have hf_13 := emod_bd (n) (mem 52 p) (by omega) (by omega)
          refine jblk hF [(.aload_n 0, 1)] (by decide +kernel) (pc' := 45) (lo' := [(0, (2, 35)), (1, (0, p)), (2, (0, n)), (3, (0, c)), (4, (0, q))]) (st' := [(2, 35), (0, n % mem 52 p)]) rfl ?_
          refine jget hF 13 24 2 24 rfl (by decide) (by decide) rfl wd_1487 (by decide +kernel) (by exact hS.k35) ?_
          rw [SR.r24 hR]
          refine jblk hF [(.iload_n 1, 1)] (by decide +kernel) (pc' := 49) (lo' := [(0, (2, 35)), (1, (0, p)), (2, (0, n)), (3, (0, c)), (4, (0, q))]) (st' := [(0, p), (2, 49), (0, n % mem 52 p)]) rfl ?_
          refine jiald hF (by decide +kernel) (by exact hS.k49) (by omega) (by have := hS.l49; omega) ?_
          refine jicmp_lt hF (off := 7) 57 (by decide +kernel) (by decide) (by omega) (by omega) (fun h_14 => ?_) (fun h_14 => ?_)
          · refine jblk hF [(.iconst 0, 1), (.istore 5, 2), (.aload_n 0, 1), (.iload 5, 2)] (by decide +kernel) (pc' := 63) (lo' := [(5, (0, 0)), (0, (2, 35)), (1, (0, p)), (2, (0, n)), (3, (0, c)), (4, (0, q))]) (st' := [(0, 0), (2, 35)]) rfl ?_
            refine jif_eq hF (off := 7) 70 (by decide +kernel) (by decide) (by decide) (fun _ => ?_) (fun h => absurd h (by decide))
            refine jblk hF [(.iconst 1, 1)] (by decide +kernel) (pc' := 71) (lo' := [(5, (0, 0)), (0, (2, 35)), (1, (0, p)), (2, (0, n)), (3, (0, c)), (4, (0, q))]) (st' := [(0, 1), (2, 35)]) rfl ?_
            refine jput hF 13 1 0 1 rfl (by decide) (by decide) rfl wd_1464 (by decide +kernel) rfl (Or.inl rfl) (by exact hS.k35) (fun h => by cases h) ?_
            refine jblk hF [(.iload 5, 2)] (by decide +kernel) (pc' := 76) (lo' := [(5, (0, 0)), (0, (2, 35)), (1, (0, p)), (2, (0, n)), (3, (0, c)), (4, (0, q))]) (st' := [(0, 0)]) rfl ?_
            refine jif_ne hF (off := 5) 81 (by decide +kernel) (by decide) (by decide) (fun h => absurd h (by decide)) (fun _ => ?_)
            refine jlconst hF (n := 0) 0 rfl (by decide +kernel) ?_
            refine jlret hF hr (by decide +kernel) ?_
            exact lMR ⟨(SR.s hR (Or.inr (by decide))), by first | exact ⟨fun h => absurd h (by omega), fun _ => ⟨rfl, rfl⟩⟩ | exact ⟨fun _ => ⟨by rw [if_pos (by omega), ← hQ]; exact hK.2.1 n (by omega) (by rw [e47]; omega), hK.1⟩, fun h => absurd (by omega) h⟩ | exact ⟨fun _ => ⟨by rw [if_neg (by omega), ← hC]; exact hK.2.2 n c (by omega) (by rw [e47]; omega) (by rw [e49, e52]; omega) (by omega) (by rw [e49]; omega), hK.1⟩, fun h => absurd (by omega) h⟩⟩
          · refine jblk hF [(.iconst 1, 1)] (by decide +kernel) (pc' := 54) (lo' := [(0, (2, 35)), (1, (0, p)), (2, (0, n)), (3, (0, c)), (4, (0, q))]) (st' := [(0, 1)]) rfl ?_
            refine jgoto hF (off := 4) 58 (by decide +kernel) (by decide) ?_
            refine jblk hF [(.istore 5, 2), (.aload_n 0, 1), (.iload 5, 2)] (by decide +kernel) (pc' := 63) (lo' := [(5, (0, 1)), (0, (2, 35)), (1, (0, p)), (2, (0, n)), (3, (0, c)), (4, (0, q))]) (st' := [(0, 1), (2, 35)]) rfl ?_
            refine jif_eq hF (off := 7) 70 (by decide +kernel) (by decide) (by decide) (fun h => absurd h (by decide)) (fun _ => ?_)
            refine jblk hF [(.iconst 0, 1)] (by decide +kernel) (pc' := 67) (lo' := [(5, (0, 1)), (0, (2, 35)), (1, (0, p)), (2, (0, n)), (3, (0, c)), (4, (0, q))]) (st' := [(0, 0), (2, 35)]) rfl ?_
            refine jgoto hF (off := 4) 71 (by decide +kernel) (by decide) ?_
            refine jput hF 13 1 0 1 rfl (by decide) (by decide) rfl wd_1464 (by decide +kernel) rfl (Or.inl rfl) (by exact hS.k35) (fun h => by cases h) ?_
            refine jblk hF [(.iload 5, 2)] (by decide +kernel) (pc' := 76) (lo' := [(5, (0, 1)), (0, (2, 35)), (1, (0, p)), (2, (0, n)), (3, (0, c)), (4, (0, q))]) (st' := [(0, 1)]) rfl ?_
            refine jif_ne hF (off := 5) 81 (by decide +kernel) (by decide) (by decide) (fun _ => ?_) (fun h => absurd h (by decide))
            refine jblk hF [(.aload_n 0, 1), (.iload_n 1, 1), (.iload 4, 2)] (by decide +kernel) (pc' := 85) (lo' := [(5, (0, 1)), (0, (2, 35)), (1, (0, p)), (2, (0, n)), (3, (0, c)), (4, (0, q))]) (st' := [(0, q), (0, p), (2, 35)]) rfl ?_
            refine jcallV hF (c_X12_makeAs hG hS (SR.s hR (Or.inr (by decide))) p q (by first | omega | exact hE.fPG hp | exact (EQ36.f _ _).fPG hp) (by first | exact hSL | exact (EQ36.f _ _).fSLS (s2_k (by decide)) (s2_k (by decide)) (s2_k (by decide)) hSL) (by first | omega | (rw [show (set2 mem 35 1 0) 35 33 = mem 35 33 from s2_k (by decide)]; omega) | (rw [show (set2 mem 35 1 0) 35 0 = mem 35 0 from s2_k (by decide)]; omega)) (by omega) (by first | omega | (rw [show (set2 mem 35 1 0) 35 33 = mem 35 33 from s2_k (by decide)]; omega) | (rw [show (set2 mem 35 1 0) 35 0 = mem 35 0 from s2_k (by decide)]; omega))) MW_X12_makeAs 13 (by decide) (by exact hS.k35) wd_2008 wd_2010 wd_p85 (by decide +kernel) [] rfl rfl (by decide) (Nat.le_of_ble_eq_true rfl) (by decide) (kMV (fun m_19 h_20 => ?_))
            obtain ⟨hR_m_19, h_20⟩ := h_20
            have hK := h_20
            have e47 := (EQ36.f 1 0 : EQ36 mem _).at 47 (by decide)
            have e49 := (EQ36.f 1 0 : EQ36 mem _).at 49 (by decide)
            have e52 := (EQ36.f 1 0 : EQ36 mem _).at 52 (by decide)
            have hQ := (EQ36.f 1 0 : EQ36 mem _).fnumQ (s2_k (by decide)) p n q
            have hC := (EQ36.f 1 0 : EQ36 mem _).fcolQ (s2_k (by decide)) p n c q
            refine jblk hF [(.iload_n 3, 1), (.bipush 9, 2)] (by decide +kernel) (pc' := 91) (lo' := [(5, (0, 1)), (0, (2, 35)), (1, (0, p)), (2, (0, n)), (3, (0, c)), (4, (0, q))]) (st' := [(0, 9), (0, c)]) rfl ?_
            refine jicmp_ne hF (off := 12) 103 (by decide +kernel) (by decide) (by omega) (by decide) (fun h_21 => ?_) (fun h_21 => ?_)
            · refine jblk hF [(.aload_n 0, 1)] (by decide +kernel) (pc' := 104) (lo' := [(5, (0, 1)), (0, (2, 35)), (1, (0, p)), (2, (0, n)), (3, (0, c)), (4, (0, q))]) (st' := [(2, 35)]) rfl ?_
              refine jget hF 13 36 2 36 rfl (by decide) (by decide) rfl wd_1499 (by decide +kernel) (by exact hS.k35) ?_
              rw [SR.r36 hR_m_19]
              refine jblk hF [(.iconst 5, 1), (.iload_n 2, 1), (.imul, 1), (.iload_n 3, 1), (.iadd, 1)] (by decide +kernel) (pc' := 112) (lo' := [(5, (0, 1)), (0, (2, 35)), (1, (0, p)), (2, (0, n)), (3, (0, c)), (4, (0, q))]) (st' := [(0, (5 * n) + c), (2, 60)]) rfl ?_
              refine jlald hF (by decide +kernel) (by exact hS.k60) (by omega) (by have := hS.l60; omega) ?_
              refine jlret hF hr (by decide +kernel) ?_
              exact lMR ⟨hR_m_19, by first | exact ⟨fun h => absurd h (by omega), fun _ => ⟨rfl, rfl⟩⟩ | exact ⟨fun _ => ⟨by rw [if_pos (by omega), ← hQ]; exact hK.2.1 n (by omega) (by rw [e47]; omega), hK.1⟩, fun h => absurd (by omega) h⟩ | exact ⟨fun _ => ⟨by rw [if_neg (by omega), ← hC]; exact hK.2.2 n c (by omega) (by rw [e47]; omega) (by rw [e49, e52]; omega) (by omega) (by rw [e49]; omega), hK.1⟩, fun h => absurd (by omega) h⟩⟩
            · refine jblk hF [(.aload_n 0, 1)] (by decide +kernel) (pc' := 95) (lo' := [(5, (0, 1)), (0, (2, 35)), (1, (0, p)), (2, (0, n)), (3, (0, c)), (4, (0, q))]) (st' := [(2, 35)]) rfl ?_
              refine jget hF 13 37 2 37 rfl (by decide) (by decide) rfl wd_1500 (by decide +kernel) (by exact hS.k35) ?_
              rw [SR.r37 hR_m_19]
              refine jblk hF [(.iload_n 2, 1)] (by decide +kernel) (pc' := 99) (lo' := [(5, (0, 1)), (0, (2, 35)), (1, (0, p)), (2, (0, n)), (3, (0, c)), (4, (0, q))]) (st' := [(0, n), (2, 61)]) rfl ?_
              refine jlald hF (by decide +kernel) (by exact hS.k61) (by omega) (by have := hS.l61; omega) ?_
              refine jgoto hF (off := 13) 113 (by decide +kernel) (by decide) ?_
              refine jlret hF hr (by decide +kernel) ?_
              exact lMR ⟨hR_m_19, by first | exact ⟨fun h => absurd h (by omega), fun _ => ⟨rfl, rfl⟩⟩ | exact ⟨fun _ => ⟨by rw [if_pos (by omega), ← hQ]; exact hK.2.1 n (by omega) (by rw [e47]; omega), hK.1⟩, fun h => absurd (by omega) h⟩ | exact ⟨fun _ => ⟨by rw [if_neg (by omega), ← hC]; exact hK.2.2 n c (by omega) (by rw [e47]; omega) (by rw [e49, e52]; omega) (by omega) (by rw [e49]; omega), hK.1⟩, fun h => absurd (by omega) h⟩⟩
        · refine jif_eq hF (off := 22) 57 (by decide +kernel) (by decide) (by decide) (fun _ => ?_) (fun h => absurd h (by decide))
          refine jblk hF [(.iconst 0, 1), (.istore 5, 2), (.aload_n 0, 1), (.iload 5, 2)] (by decide +kernel) (pc' := 63) (lo' := [(5, (0, 0)), (0, (2, 35)), (1, (0, p)), (2, (0, n)), (3, (0, c)), (4, (0, q))]) (st' := [(0, 0), (2, 35)]) rfl ?_
          refine jif_eq hF (off := 7) 70 (by decide +kernel) (by decide) (by decide) (fun _ => ?_) (fun h => absurd h (by decide))
          refine jblk hF [(.iconst 1, 1)] (by decide +kernel) (pc' := 71) (lo' := [(5, (0, 0)), (0, (2, 35)), (1, (0, p)), (2, (0, n)), (3, (0, c)), (4, (0, q))]) (st' := [(0, 1), (2, 35)]) rfl ?_
          refine jput hF 13 1 0 1 rfl (by decide) (by decide) rfl wd_1464 (by decide +kernel) rfl (Or.inl rfl) (by exact hS.k35) (fun h => by cases h) ?_
          refine jblk hF [(.iload 5, 2)] (by decide +kernel) (pc' := 76) (lo' := [(5, (0, 0)), (0, (2, 35)), (1, (0, p)), (2, (0, n)), (3, (0, c)), (4, (0, q))]) (st' := [(0, 0)]) rfl ?_
          refine jif_ne hF (off := 5) 81 (by decide +kernel) (by decide) (by decide) (fun h => absurd h (by decide)) (fun _ => ?_)
          refine jlconst hF (n := 0) 0 rfl (by decide +kernel) ?_
          refine jlret hF hr (by decide +kernel) ?_
          exact lMR ⟨(SR.s hR (Or.inr (by decide))), by first | exact ⟨fun h => absurd h (by omega), fun _ => ⟨rfl, rfl⟩⟩ | exact ⟨fun _ => ⟨by rw [if_pos (by omega), ← hQ]; exact hK.2.1 n (by omega) (by rw [e47]; omega), hK.1⟩, fun h => absurd (by omega) h⟩ | exact ⟨fun _ => ⟨by rw [if_neg (by omega), ← hC]; exact hK.2.2 n c (by omega) (by rw [e47]; omega) (by rw [e49, e52]; omega) (by omega) (by rw [e49]; omega), hK.1⟩, fun h => absurd (by omega) h⟩⟩
    · refine jif_eq hF (off := 42) 57 (by decide +kernel) (by decide) (by decide) (fun _ => ?_) (fun h => absurd h (by decide))
      refine jblk hF [(.iconst 0, 1), (.istore 5, 2), (.aload_n 0, 1), (.iload 5, 2)] (by decide +kernel) (pc' := 63) (lo' := [(5, (0, 0)), (0, (2, 35)), (1, (0, p)), (2, (0, n)), (3, (0, c)), (4, (0, q))]) (st' := [(0, 0), (2, 35)]) rfl ?_
      refine jif_eq hF (off := 7) 70 (by decide +kernel) (by decide) (by decide) (fun _ => ?_) (fun h => absurd h (by decide))
      refine jblk hF [(.iconst 1, 1)] (by decide +kernel) (pc' := 71) (lo' := [(5, (0, 0)), (0, (2, 35)), (1, (0, p)), (2, (0, n)), (3, (0, c)), (4, (0, q))]) (st' := [(0, 1), (2, 35)]) rfl ?_
      refine jput hF 13 1 0 1 rfl (by decide) (by decide) rfl wd_1464 (by decide +kernel) rfl (Or.inl rfl) (by exact hS.k35) (fun h => by cases h) ?_
      refine jblk hF [(.iload 5, 2)] (by decide +kernel) (pc' := 76) (lo' := [(5, (0, 0)), (0, (2, 35)), (1, (0, p)), (2, (0, n)), (3, (0, c)), (4, (0, q))]) (st' := [(0, 0)]) rfl ?_
      refine jif_ne hF (off := 5) 81 (by decide +kernel) (by decide) (by decide) (fun h => absurd h (by decide)) (fun _ => ?_)
      refine jlconst hF (n := 0) 0 rfl (by decide +kernel) ?_
      refine jlret hF hr (by decide +kernel) ?_
      exact lMR ⟨(SR.s hR (Or.inr (by decide))), by first | exact ⟨fun h => absurd h (by omega), fun _ => ⟨rfl, rfl⟩⟩ | exact ⟨fun _ => ⟨by rw [if_pos (by omega), ← hQ]; exact hK.2.1 n (by omega) (by rw [e47]; omega), hK.1⟩, fun h => absurd (by omega) h⟩ | exact ⟨fun _ => ⟨by rw [if_neg (by omega), ← hC]; exact hK.2.2 n c (by omega) (by rw [e47]; omega) (by rw [e49, e52]; omega) (by omega) (by rw [e49]; omega), hK.1⟩, fun h => absurd (by omega) h⟩⟩
  · refine jif_eq hF (off := 51) 57 (by decide +kernel) (by decide) (by decide) (fun _ => ?_) (fun h => absurd h (by decide))
    refine jblk hF [(.iconst 0, 1), (.istore 5, 2), (.aload_n 0, 1), (.iload 5, 2)] (by decide +kernel) (pc' := 63) (lo' := [(5, (0, 0)), (0, (2, 35)), (1, (0, p)), (2, (0, n)), (3, (0, c)), (4, (0, q))]) (st' := [(0, 0), (2, 35)]) rfl ?_
    refine jif_eq hF (off := 7) 70 (by decide +kernel) (by decide) (by decide) (fun _ => ?_) (fun h => absurd h (by decide))
    refine jblk hF [(.iconst 1, 1)] (by decide +kernel) (pc' := 71) (lo' := [(5, (0, 0)), (0, (2, 35)), (1, (0, p)), (2, (0, n)), (3, (0, c)), (4, (0, q))]) (st' := [(0, 1), (2, 35)]) rfl ?_
    refine jput hF 13 1 0 1 rfl (by decide) (by decide) rfl wd_1464 (by decide +kernel) rfl (Or.inl rfl) (by exact hS.k35) (fun h => by cases h) ?_
    refine jblk hF [(.iload 5, 2)] (by decide +kernel) (pc' := 76) (lo' := [(5, (0, 0)), (0, (2, 35)), (1, (0, p)), (2, (0, n)), (3, (0, c)), (4, (0, q))]) (st' := [(0, 0)]) rfl ?_
    refine jif_ne hF (off := 5) 81 (by decide +kernel) (by decide) (by decide) (fun h => absurd h (by decide)) (fun _ => ?_)
    refine jlconst hF (n := 0) 0 rfl (by decide +kernel) ?_
    refine jlret hF hr (by decide +kernel) ?_
    exact lMR ⟨(SR.s hR (Or.inr (by decide))), by first | exact ⟨fun h => absurd h (by omega), fun _ => ⟨rfl, rfl⟩⟩ | exact ⟨fun _ => ⟨by rw [if_pos (by omega), ← hQ]; exact hK.2.1 n (by omega) (by rw [e47]; omega), hK.1⟩, fun h => absurd (by omega) h⟩ | exact ⟨fun _ => ⟨by rw [if_neg (by omega), ← hC]; exact hK.2.2 n c (by omega) (by rw [e47]; omega) (by rw [e49, e52]; omega) (by omega) (by rw [e49]; omega), hK.1⟩, fun h => absurd (by omega) h⟩⟩
set_option maxHeartbeats 4000000 in
set_option maxRecDepth 100000 in
theorem c_X12_keptOf {l : Launch} {g : GP} (hG : GH g) {kd : Int → Nat} {ln : Int → Int} {mem : Int → Int → Int} {sz : Nat} (hS : SK kd ln) (hR : SR mem) (p v : Int) (hp : PG mem p) (h_v : InL v) : MT l g yX12_keptOf cX12_keptOf 4 (some .long) 2 0 0 [(2, 35), (0, p), (1, v)] kd ln mem sz (pV (1, nearBy v (10 ^ (mem 51 p).toNat) (mem 53 p)) kd ln mem sz) := by
  refine MT_of hG (by decide +kernel) (Nat.le_of_ble_eq_true rfl) (fun z hF hr hn => ?_)
  refine jblk hF [(.lload_n 2, 1), (.aload_n 0, 1)] (by decide +kernel) (pc' := 2) (lo' := [(0, (2, 35)), (1, (0, p)), (2, (1, v))]) (st' := [(2, 35), (1, v)]) rfl ?_
  refine jget hF 13 26 2 26 rfl (by decide) (by decide) rfl wd_1489 (by decide +kernel) (by exact hS.k35) ?_
  rw [SR.r26 hR]
  refine jblk hF [(.iload_n 1, 1)] (by decide +kernel) (pc' := 6) (lo' := [(0, (2, 35)), (1, (0, p)), (2, (1, v))]) (st' := [(0, p), (2, 51), (1, v)]) rfl ?_
  refine jiald hF (by decide +kernel) (by exact hS.k51) (by omega) (by have := hS.l51; omega) ?_
  have ht := ten6 (p := mem 51 p) (by omega)
  refine jcallS hF (c_X12_ten hG (mem 51 p) (by omega)) MW_X12_ten wd_1774 wd_1775 (by decide +kernel) [(1, v)] rfl rfl (by decide) (Nat.le_of_ble_eq_true rfl) (by decide) (kV ?_)
  refine jblk hF [(.aload_n 0, 1)] (by decide +kernel) (pc' := 11) (lo' := [(0, (2, 35)), (1, (0, p)), (2, (1, v))]) (st' := [(2, 35), (1, 10 ^ (mem 51 p).toNat), (1, v)]) rfl ?_
  refine jget hF 13 28 2 28 rfl (by decide) (by decide) rfl wd_1491 (by decide +kernel) (by exact hS.k35) ?_
  rw [SR.r28 hR]
  refine jblk hF [(.iload_n 1, 1)] (by decide +kernel) (pc' := 15) (lo' := [(0, (2, 35)), (1, (0, p)), (2, (1, v))]) (st' := [(0, p), (2, 53), (1, 10 ^ (mem 51 p).toNat), (1, v)]) rfl ?_
  refine jiald hF (by decide +kernel) (by exact hS.k53) (by omega) (by have := hS.l53; omega) ?_
  refine jcallS hF (c_X12_nearestBy hG v (10 ^ (mem 51 p).toNat) (mem 53 p) (by omega) (by omega) (by omega)) MW_X12_nearestBy wd_1806 wd_1807 (by decide +kernel) [] rfl rfl (by decide) (Nat.le_of_ble_eq_true rfl) (by decide) (kV ?_)
  refine jlret hF hr (by decide +kernel) ?_
  exact lV (by rfl)
set_option maxHeartbeats 4000000 in
set_option maxRecDepth 100000 in
theorem c_X12_kept {l : Launch} {g : GP} (hG : GH g) {kd : Int → Nat} {ln : Int → Int} {mem : Int → Int → Int} {sz : Nat} (hS : SK kd ln) (hR : SR mem) (p n q : Int) (h_p : InI p) (h_n : InI n) (h_q : InI q) (hPS : PGS mem) (hSL : SLS mem) (h0 : 0 ≤ mem 35 0 ∧ mem 35 0 ≤ 1000) : MT l g yX12_kept cX12_kept 4 (some .long) 6 0 0 [(2, 35), (0, p), (0, n), (0, q)] kd ln mem sz (pMR 1 (fun v mem' => SR mem' ∧ (((isLn mem p n ∧ isKn mem q) → v = keptV mem p (numQ mem p n q) ∧ FR (thr mem 0) mem') ∧ (¬ (isLn mem p n ∧ isKn mem q) → v = 0 ∧ mem' = thr mem 1))) kd ln sz) := by
  refine MT_of hG (by decide +kernel) (Nat.le_of_ble_eq_true rfl) (fun z hF hr hn => ?_)
  refine jblk hF [(.aload_n 0, 1), (.aload_n 0, 1), (.iload_n 1, 1), (.iload_n 2, 1)] (by decide +kernel) (pc' := 4) (lo' := [(0, (2, 35)), (1, (0, p)), (2, (0, n)), (3, (0, q))]) (st' := [(0, n), (0, p), (2, 35), (2, 35)]) rfl ?_
  refine jcallV hF (c_X12_isLine hG hS hR p n (by omega) (by omega) (by exact hPS)) MW_X12_isLine 13 (by decide) (by exact hS.k35) wd_1954 wd_1956 wd_p76 (by decide +kernel) [(2, 35)] rfl rfl (by decide) (Nat.le_of_ble_eq_true rfl) (by decide) (kB (fun h_1 => ?_) (fun h_1 => ?_))
  · refine jif_eq hF (off := 15) 22 (by decide +kernel) (by decide) (by decide) (fun h => absurd h (by decide)) (fun _ => ?_)
    have hp := hPS.2.2 p (by omega) (by omega)
    refine jblk hF [(.aload_n 0, 1), (.iload_n 3, 1)] (by decide +kernel) (pc' := 12) (lo' := [(0, (2, 35)), (1, (0, p)), (2, (0, n)), (3, (0, q))]) (st' := [(0, q), (2, 35), (2, 35)]) rfl ?_
    refine jcallV hF (c_X12_isKnowing hG hS hR q (by omega) (by omega)) MW_X12_isKnowing 13 (by decide) (by exact hS.k35) wd_2004 wd_2006 wd_p84 (by decide +kernel) [(2, 35)] rfl rfl (by decide) (Nat.le_of_ble_eq_true rfl) (by decide) (kB (fun h_3 => ?_) (fun h_3 => ?_))
    · refine jif_eq hF (off := 7) 22 (by decide +kernel) (by decide) (by decide) (fun h => absurd h (by decide)) (fun _ => ?_)
      refine jblk hF [(.iconst 0, 1)] (by decide +kernel) (pc' := 19) (lo' := [(0, (2, 35)), (1, (0, p)), (2, (0, n)), (3, (0, q))]) (st' := [(0, 0), (2, 35)]) rfl ?_
      refine jgoto hF (off := 4) 23 (by decide +kernel) (by decide) ?_
      refine jput hF 13 1 0 1 rfl (by decide) (by decide) rfl wd_1464 (by decide +kernel) rfl (Or.inl rfl) (by exact hS.k35) (fun h => by cases h) ?_
      refine jblk hF [(.aload_n 0, 1)] (by decide +kernel) (pc' := 27) (lo' := [(0, (2, 35)), (1, (0, p)), (2, (0, n)), (3, (0, q))]) (st' := [(2, 35)]) rfl ?_
      refine jget hF 13 1 0 1 rfl (by decide) (by decide) rfl wd_1464 (by decide +kernel) (by exact hS.k35) ?_
      rw [show (set2 mem 35 1 0) 35 1 = 0 from s2_s]
      refine jblk hF [(.iconst 1, 1)] (by decide +kernel) (pc' := 31) (lo' := [(0, (2, 35)), (1, (0, p)), (2, (0, n)), (3, (0, q))]) (st' := [(0, 1), (0, 0)]) rfl ?_
      refine jicmp_ne hF (off := 5) 36 (by decide +kernel) (by decide) (by decide) (by decide) (fun _ => ?_) (fun h => absurd h (by decide))
      refine jblk hF [(.aload_n 0, 1), (.iload_n 1, 1), (.iload_n 3, 1)] (by decide +kernel) (pc' := 39) (lo' := [(0, (2, 35)), (1, (0, p)), (2, (0, n)), (3, (0, q))]) (st' := [(0, q), (0, p), (2, 35)]) rfl ?_
      refine jcallV hF (c_X12_makeAs hG hS (SR.s hR (Or.inr (by decide))) p q (by first | omega | exact hE.fPG hp | exact (EQ36.f _ _).fPG hp) (by first | exact hSL | exact (EQ36.f _ _).fSLS (s2_k (by decide)) (s2_k (by decide)) (s2_k (by decide)) hSL) (by first | omega | (rw [show (set2 mem 35 1 0) 35 33 = mem 35 33 from s2_k (by decide)]; omega) | (rw [show (set2 mem 35 1 0) 35 0 = mem 35 0 from s2_k (by decide)]; omega)) (by omega) (by first | omega | (rw [show (set2 mem 35 1 0) 35 33 = mem 35 33 from s2_k (by decide)]; omega) | (rw [show (set2 mem 35 1 0) 35 0 = mem 35 0 from s2_k (by decide)]; omega))) MW_X12_makeAs 13 (by decide) (by exact hS.k35) wd_2008 wd_2010 wd_p85 (by decide +kernel) [] rfl rfl (by decide) (Nat.le_of_ble_eq_true rfl) (by decide) (kMV (fun m_6 h_7 => ?_))
      obtain ⟨hR_m_6, h_7⟩ := h_7
      have hK := h_7
      have hE : EQ36 mem m_6 := (EQ36.f 1 0).tr hK.1.e
      have e47 := (EQ36.f 1 0 : EQ36 mem _).at 47 (by decide)
      have hQ := (EQ36.f 1 0 : EQ36 mem _).fnumQ (s2_k (by decide)) p n q
      have hN := hK.2.1 n (by omega) (by rw [e47]; omega)
      refine jblk hF [(.aload_n 0, 1), (.iload_n 1, 1), (.aload_n 0, 1)] (by decide +kernel) (pc' := 45) (lo' := [(0, (2, 35)), (1, (0, p)), (2, (0, n)), (3, (0, q))]) (st' := [(2, 35), (0, p), (2, 35)]) rfl ?_
      refine jget hF 13 37 2 37 rfl (by decide) (by decide) rfl wd_1500 (by decide +kernel) (by exact hS.k35) ?_
      rw [SR.r37 hR_m_6]
      refine jblk hF [(.iload_n 2, 1)] (by decide +kernel) (pc' := 49) (lo' := [(0, (2, 35)), (1, (0, p)), (2, (0, n)), (3, (0, q))]) (st' := [(0, n), (2, 61), (0, p), (2, 35)]) rfl ?_
      refine jlald hF (by decide +kernel) (by exact hS.k61) (by omega) (by have := hS.l61; omega) ?_
      refine jwL0 ?_
      refine jcallV hF (c_X12_keptOf hG hS hR_m_6 p (wL (m_6 61 n)) (by first | omega | exact hE.fPG hp | exact (EQ36.f _ _).fPG hp) (by first | exact wL_in _ | omega)) MW_X12_keptOf 13 (by decide) (by exact hS.k35) wd_2023 wd_2025 wd_p87 (by decide +kernel) [] rfl rfl (by decide) (Nat.le_of_ble_eq_true rfl) (by decide) (kV ?_)
      have hf_8 := nearBy_in ((wL (m_6 61 n))) (10 ^ (m_6 51 p).toNat) (m_6 53 p) (wL_in _) ten_pos
      refine jlret hF hr (by decide +kernel) ?_
      exact lMR ⟨hR_m_6, by first | exact ⟨fun h => absurd h (by omega), fun _ => ⟨rfl, rfl⟩⟩ | exact ⟨fun _ => ⟨by rw [hN]; unfold keptV; rw [hE.at 51 (by decide), hE.at 53 (by decide), ← hQ]; rfl, hK.1⟩, fun h => absurd (by omega) h⟩⟩
    · refine jif_eq hF (off := 7) 22 (by decide +kernel) (by decide) (by decide) (fun _ => ?_) (fun h => absurd h (by decide))
      refine jblk hF [(.iconst 1, 1)] (by decide +kernel) (pc' := 23) (lo' := [(0, (2, 35)), (1, (0, p)), (2, (0, n)), (3, (0, q))]) (st' := [(0, 1), (2, 35)]) rfl ?_
      refine jput hF 13 1 0 1 rfl (by decide) (by decide) rfl wd_1464 (by decide +kernel) rfl (Or.inl rfl) (by exact hS.k35) (fun h => by cases h) ?_
      refine jblk hF [(.aload_n 0, 1)] (by decide +kernel) (pc' := 27) (lo' := [(0, (2, 35)), (1, (0, p)), (2, (0, n)), (3, (0, q))]) (st' := [(2, 35)]) rfl ?_
      refine jget hF 13 1 0 1 rfl (by decide) (by decide) rfl wd_1464 (by decide +kernel) (by exact hS.k35) ?_
      rw [show (set2 mem 35 1 1) 35 1 = 1 from s2_s]
      refine jblk hF [(.iconst 1, 1)] (by decide +kernel) (pc' := 31) (lo' := [(0, (2, 35)), (1, (0, p)), (2, (0, n)), (3, (0, q))]) (st' := [(0, 1), (0, 1)]) rfl ?_
      refine jicmp_ne hF (off := 5) 36 (by decide +kernel) (by decide) (by decide) (by decide) (fun h => absurd h (by decide)) (fun _ => ?_)
      refine jlconst hF (n := 0) 0 rfl (by decide +kernel) ?_
      refine jlret hF hr (by decide +kernel) ?_
      exact lMR ⟨(SR.s hR (Or.inr (by decide))), by first | exact ⟨fun h => absurd h (by omega), fun _ => ⟨rfl, rfl⟩⟩ | exact ⟨fun _ => ⟨by rw [hN]; unfold keptV; rw [hE.at 51 (by decide), hE.at 53 (by decide), ← hQ]; rfl, hK.1⟩, fun h => absurd (by omega) h⟩⟩
  · refine jif_eq hF (off := 15) 22 (by decide +kernel) (by decide) (by decide) (fun _ => ?_) (fun h => absurd h (by decide))
    refine jblk hF [(.iconst 1, 1)] (by decide +kernel) (pc' := 23) (lo' := [(0, (2, 35)), (1, (0, p)), (2, (0, n)), (3, (0, q))]) (st' := [(0, 1), (2, 35)]) rfl ?_
    refine jput hF 13 1 0 1 rfl (by decide) (by decide) rfl wd_1464 (by decide +kernel) rfl (Or.inl rfl) (by exact hS.k35) (fun h => by cases h) ?_
    refine jblk hF [(.aload_n 0, 1)] (by decide +kernel) (pc' := 27) (lo' := [(0, (2, 35)), (1, (0, p)), (2, (0, n)), (3, (0, q))]) (st' := [(2, 35)]) rfl ?_
    refine jget hF 13 1 0 1 rfl (by decide) (by decide) rfl wd_1464 (by decide +kernel) (by exact hS.k35) ?_
    rw [show (set2 mem 35 1 1) 35 1 = 1 from s2_s]
    refine jblk hF [(.iconst 1, 1)] (by decide +kernel) (pc' := 31) (lo' := [(0, (2, 35)), (1, (0, p)), (2, (0, n)), (3, (0, q))]) (st' := [(0, 1), (0, 1)]) rfl ?_
    refine jicmp_ne hF (off := 5) 36 (by decide +kernel) (by decide) (by decide) (by decide) (fun h => absurd h (by decide)) (fun _ => ?_)
    refine jlconst hF (n := 0) 0 rfl (by decide +kernel) ?_
    refine jlret hF hr (by decide +kernel) ?_
    exact lMR ⟨(SR.s hR (Or.inr (by decide))), by first | exact ⟨fun h => absurd h (by omega), fun _ => ⟨rfl, rfl⟩⟩ | exact ⟨fun _ => ⟨by rw [hN]; unfold keptV; rw [hE.at 51 (by decide), hE.at 53 (by decide), ← hQ]; rfl, hK.1⟩, fun h => absurd (by omega) h⟩⟩
set_option maxHeartbeats 4000000 in
set_option maxRecDepth 100000 in
theorem c_X12_rightOf {l : Launch} {g : GP} (hG : GH g) {kd : Int → Nat} {ln : Int → Int} {mem : Int → Int → Int} {sz : Nat} (hS : SK kd ln) (hR : SR mem) (p n : Int) (hp : PG mem p) (hn1 : 0 ≤ n ∧ n < mem 47 p) : MT l g yX12_rightOf cX12_rightOf 3 (some .long) 3 0 0 [(2, 35), (0, p), (0, n)] kd ln mem sz (pV (1, rightV mem p n) kd ln mem sz) := by
  refine MT_of hG (by decide +kernel) (Nat.le_of_ble_eq_true rfl) (fun z hF hr hn => ?_)
  have hx := xof_bd (n := n) hp (by omega) (by omega)
  refine jblk hF [(.aload_n 0, 1), (.aload_n 0, 1)] (by decide +kernel) (pc' := 2) (lo' := [(0, (2, 35)), (1, (0, p)), (2, (0, n))]) (st' := [(2, 35), (2, 35)]) rfl ?_
  refine jget hF 13 20 2 20 rfl (by decide) (by decide) rfl wd_1483 (by decide +kernel) (by exact hS.k35) ?_
  rw [SR.r20 hR]
  refine jblk hF [(.iload_n 1, 1)] (by decide +kernel) (pc' := 6) (lo' := [(0, (2, 35)), (1, (0, p)), (2, (0, n))]) (st' := [(0, p), (2, 45), (2, 35)]) rfl ?_
  refine jiald hF (by decide +kernel) (by exact hS.k45) (by omega) (by have := hS.l45; omega) ?_
  refine jblk hF [(.aload_n 0, 1), (.iload_n 1, 1), (.iload_n 2, 1)] (by decide +kernel) (pc' := 10) (lo' := [(0, (2, 35)), (1, (0, p)), (2, (0, n))]) (st' := [(0, n), (0, p), (2, 35), (0, mem 45 p), (2, 35)]) rfl ?_
  refine jcallV hF (c_X12_xOf hG hS hR p n (by first | omega | exact hE.fPG hp | exact (EQ36.f _ _).fPG hp) (by omega)) MW_X12_xOf 13 (by decide) (by exact hS.k35) wd_1958 wd_1960 wd_p77 (by decide +kernel) [(0, mem 45 p), (2, 35)] rfl rfl (by decide) (Nat.le_of_ble_eq_true rfl) (by decide) (kV ?_)
  refine jblk hF [(.aload_n 0, 1)] (by decide +kernel) (pc' := 14) (lo' := [(0, (2, 35)), (1, (0, p)), (2, (0, n))]) (st' := [(2, 35), (0, mem 46 p + n * mem 48 p), (0, mem 45 p), (2, 35)]) rfl ?_
  refine jget hF 13 25 2 25 rfl (by decide) (by decide) rfl wd_1488 (by decide +kernel) (by exact hS.k35) ?_
  rw [SR.r25 hR]
  refine jblk hF [(.iload_n 1, 1)] (by decide +kernel) (pc' := 18) (lo' := [(0, (2, 35)), (1, (0, p)), (2, (0, n))]) (st' := [(0, p), (2, 50), (0, mem 46 p + n * mem 48 p), (0, mem 45 p), (2, 35)]) rfl ?_
  refine jiald hF (by decide +kernel) (by exact hS.k50) (by omega) (by have := hS.l50; omega) ?_
  refine jblk hF [(.aload_n 0, 1)] (by decide +kernel) (pc' := 20) (lo' := [(0, (2, 35)), (1, (0, p)), (2, (0, n))]) (st' := [(2, 35), (0, mem 50 p), (0, mem 46 p + n * mem 48 p), (0, mem 45 p), (2, 35)]) rfl ?_
  refine jget hF 13 28 2 28 rfl (by decide) (by decide) rfl wd_1491 (by decide +kernel) (by exact hS.k35) ?_
  rw [SR.r28 hR]
  refine jblk hF [(.iload_n 1, 1)] (by decide +kernel) (pc' := 24) (lo' := [(0, (2, 35)), (1, (0, p)), (2, (0, n))]) (st' := [(0, p), (2, 53), (0, mem 50 p), (0, mem 46 p + n * mem 48 p), (0, mem 45 p), (2, 35)]) rfl ?_
  refine jiald hF (by decide +kernel) (by exact hS.k53) (by omega) (by have := hS.l53; omega) ?_
  refine jcallV hF (c_X12_nearestOf hG hS hR (mem 45 p) (mem 46 p + n * mem 48 p) (mem 50 p) (mem 53 p) (by omega) (by omega) (by omega)) MW_X12_nearestOf 13 (by decide) (by exact hS.k35) wd_1802 wd_1804 wd_p53 (by decide +kernel) [] rfl rfl (by decide) (Nat.le_of_ble_eq_true rfl) (by decide) (kV ?_)
  have hf_1 := @near_bd (mem 36 (mem 45 p)) (mem 37 (mem 45 p)) (mem 38 (mem 45 p)) (mem 46 p + n * mem 48 p) (mem 50 p) (mem 53 p) (by omega) (by omega)
  refine jlret hF hr (by decide +kernel) ?_
  exact lV (by rfl)
set_option maxHeartbeats 4000000 in
set_option maxRecDepth 100000 in
theorem c_X12_right {l : Launch} {g : GP} (hG : GH g) {kd : Int → Nat} {ln : Int → Int} {mem : Int → Int → Int} {sz : Nat} (hS : SK kd ln) (hR : SR mem) (p n : Int) (h_p : InI p) (h_n : InI n) (hPS : PGS mem) : MT l g yX12_right cX12_right 3 (some .long) 4 0 0 [(2, 35), (0, p), (0, n)] kd ln mem sz (pMR 1 (fun v mem' => SR mem' ∧ (((isLn mem p n) → v = rightV mem p n ∧ mem' = thr mem 0) ∧ (¬ (isLn mem p n) → v = 0 ∧ mem' = thr mem 1))) kd ln sz) := by
  refine MT_of hG (by decide +kernel) (Nat.le_of_ble_eq_true rfl) (fun z hF hr hn => ?_)
  refine jblk hF [(.aload_n 0, 1), (.aload_n 0, 1), (.iload_n 1, 1), (.iload_n 2, 1)] (by decide +kernel) (pc' := 4) (lo' := [(0, (2, 35)), (1, (0, p)), (2, (0, n))]) (st' := [(0, n), (0, p), (2, 35), (2, 35)]) rfl ?_
  refine jcallV hF (c_X12_isLine hG hS hR p n (by omega) (by omega) (by exact hPS)) MW_X12_isLine 13 (by decide) (by exact hS.k35) wd_1954 wd_1956 wd_p76 (by decide +kernel) [(2, 35)] rfl rfl (by decide) (Nat.le_of_ble_eq_true rfl) (by decide) (kB (fun h_1 => ?_) (fun h_1 => ?_))
  · refine jif_eq hF (off := 7) 14 (by decide +kernel) (by decide) (by decide) (fun h => absurd h (by decide)) (fun _ => ?_)
    have hp := hPS.2.2 p (by omega) (by omega)
    refine jblk hF [(.iconst 0, 1)] (by decide +kernel) (pc' := 11) (lo' := [(0, (2, 35)), (1, (0, p)), (2, (0, n))]) (st' := [(0, 0), (2, 35)]) rfl ?_
    refine jgoto hF (off := 4) 15 (by decide +kernel) (by decide) ?_
    refine jput hF 13 1 0 1 rfl (by decide) (by decide) rfl wd_1464 (by decide +kernel) rfl (Or.inl rfl) (by exact hS.k35) (fun h => by cases h) ?_
    refine jblk hF [(.aload_n 0, 1)] (by decide +kernel) (pc' := 19) (lo' := [(0, (2, 35)), (1, (0, p)), (2, (0, n))]) (st' := [(2, 35)]) rfl ?_
    refine jget hF 13 1 0 1 rfl (by decide) (by decide) rfl wd_1464 (by decide +kernel) (by exact hS.k35) ?_
    rw [show (set2 mem 35 1 0) 35 1 = 0 from s2_s]
    refine jblk hF [(.iconst 1, 1)] (by decide +kernel) (pc' := 23) (lo' := [(0, (2, 35)), (1, (0, p)), (2, (0, n))]) (st' := [(0, 1), (0, 0)]) rfl ?_
    refine jicmp_ne hF (off := 7) 30 (by decide +kernel) (by decide) (by decide) (by decide) (fun _ => ?_) (fun h => absurd h (by decide))
    refine jblk hF [(.aload_n 0, 1), (.iload_n 1, 1), (.iload_n 2, 1)] (by decide +kernel) (pc' := 33) (lo' := [(0, (2, 35)), (1, (0, p)), (2, (0, n))]) (st' := [(0, n), (0, p), (2, 35)]) rfl ?_
    refine jcallV hF (c_X12_rightOf hG hS (SR.s hR (Or.inr (by decide))) p n (by first | omega | exact hE.fPG hp | exact (EQ36.f _ _).fPG hp) (by first | omega | (rw [hE.at 47 (by decide)]; omega) | (rw [(EQ36.f 1 0 : EQ36 mem _).at 47 (by decide)]; omega))) MW_X12_rightOf 13 (by decide) (by exact hS.k35) wd_2031 wd_2033 wd_p88 (by decide +kernel) [] rfl rfl (by decide) (Nat.le_of_ble_eq_true rfl) (by decide) (kV ?_)
    refine jlret hF hr (by decide +kernel) ?_
    exact lMR ⟨(SR.s hR (Or.inr (by decide))), by first | exact ⟨fun h => absurd h (by omega), fun _ => ⟨rfl, rfl⟩⟩ | exact ⟨fun _ => ⟨(EQ36.f _ _).frightV _ _, rfl⟩, fun h => absurd (by omega) h⟩⟩
  · refine jif_eq hF (off := 7) 14 (by decide +kernel) (by decide) (by decide) (fun _ => ?_) (fun h => absurd h (by decide))
    refine jblk hF [(.iconst 1, 1)] (by decide +kernel) (pc' := 15) (lo' := [(0, (2, 35)), (1, (0, p)), (2, (0, n))]) (st' := [(0, 1), (2, 35)]) rfl ?_
    refine jput hF 13 1 0 1 rfl (by decide) (by decide) rfl wd_1464 (by decide +kernel) rfl (Or.inl rfl) (by exact hS.k35) (fun h => by cases h) ?_
    refine jblk hF [(.aload_n 0, 1)] (by decide +kernel) (pc' := 19) (lo' := [(0, (2, 35)), (1, (0, p)), (2, (0, n))]) (st' := [(2, 35)]) rfl ?_
    refine jget hF 13 1 0 1 rfl (by decide) (by decide) rfl wd_1464 (by decide +kernel) (by exact hS.k35) ?_
    rw [show (set2 mem 35 1 1) 35 1 = 1 from s2_s]
    refine jblk hF [(.iconst 1, 1)] (by decide +kernel) (pc' := 23) (lo' := [(0, (2, 35)), (1, (0, p)), (2, (0, n))]) (st' := [(0, 1), (0, 1)]) rfl ?_
    refine jicmp_ne hF (off := 7) 30 (by decide +kernel) (by decide) (by decide) (by decide) (fun h => absurd h (by decide)) (fun _ => ?_)
    refine jlconst hF (n := 0) 0 rfl (by decide +kernel) ?_
    refine jgoto hF (off := 9) 36 (by decide +kernel) (by decide) ?_
    refine jlret hF hr (by decide +kernel) ?_
    exact lMR ⟨(SR.s hR (Or.inr (by decide))), by first | exact ⟨fun h => absurd h (by omega), fun _ => ⟨rfl, rfl⟩⟩ | exact ⟨fun _ => ⟨(EQ36.f _ _).frightV _ _, rfl⟩, fun h => absurd (by omega) h⟩⟩
set_option maxHeartbeats 4000000 in
set_option maxRecDepth 100000 in
theorem c_X12_wrong {l : Launch} {g : GP} (hG : GH g) {kd : Int → Nat} {ln : Int → Int} {mem : Int → Int → Int} {sz : Nat} (hS : SK kd ln) (hR : SR mem) (p q : Int) (h_p : InI p) (h_q : InI q) (hPS : PGS mem) (hSL : SLS mem) (h0 : 0 ≤ mem 35 0 ∧ mem 35 0 ≤ 1000) : MT l g yX12_wrong cX12_wrong 5 (some .int) 6 0 0 [(2, 35), (0, p), (0, q)] kd ln mem sz (pMR 0 (fun v mem' => SR mem' ∧ (((isPg mem p ∧ isKn mem q) → v = wrongN mem p q (mem 47 p).toNat ∧ FR mem mem') ∧ (¬ (isPg mem p ∧ isKn mem q) → v = -1 ∧ mem' = mem))) kd ln sz) := by
  refine MT_of hG (by decide +kernel) (Nat.le_of_ble_eq_true rfl) (fun z hF hr hn => ?_)
  refine jblk hF [(.aload_n 0, 1), (.iload_n 1, 1)] (by decide +kernel) (pc' := 2) (lo' := [(0, (2, 35)), (1, (0, p)), (2, (0, q))]) (st' := [(0, p), (2, 35)]) rfl ?_
  refine jcallV hF (c_X12_isPage hG hS hR p (by omega) (by omega)) MW_X12_isPage 13 (by decide) (by exact hS.k35) wd_1930 wd_1932 wd_p71 (by decide +kernel) [] rfl rfl (by decide) (Nat.le_of_ble_eq_true rfl) (by decide) (kB (fun h_1 => ?_) (fun h_1 => ?_))
  · refine jif_eq hF (off := 11) 16 (by decide +kernel) (by decide) (by decide) (fun h => absurd h (by decide)) (fun _ => ?_)
    have hp := hPS.2.2 p (by omega) (by omega)
    refine jblk hF [(.aload_n 0, 1), (.iload_n 2, 1)] (by decide +kernel) (pc' := 10) (lo' := [(0, (2, 35)), (1, (0, p)), (2, (0, q))]) (st' := [(0, q), (2, 35)]) rfl ?_
    refine jcallV hF (c_X12_isKnowing hG hS hR q (by omega) (by omega)) MW_X12_isKnowing 13 (by decide) (by exact hS.k35) wd_2004 wd_2006 wd_p84 (by decide +kernel) [] rfl rfl (by decide) (Nat.le_of_ble_eq_true rfl) (by decide) (kB (fun h_3 => ?_) (fun h_3 => ?_))
    · refine jif_ne hF (off := 5) 18 (by decide +kernel) (by decide) (by decide) (fun _ => ?_) (fun h => absurd h (by decide))
      refine jblk hF [(.aload_n 0, 1), (.iload_n 1, 1), (.iload_n 2, 1)] (by decide +kernel) (pc' := 21) (lo' := [(0, (2, 35)), (1, (0, p)), (2, (0, q))]) (st' := [(0, q), (0, p), (2, 35)]) rfl ?_
      refine jcallV hF (c_X12_makeAs hG hS hR p q (by first | omega | exact hE.fPG hp | exact (EQ36.f _ _).fPG hp) (by first | exact hSL | exact (EQ36.f _ _).fSLS (s2_k (by decide)) (s2_k (by decide)) (s2_k (by decide)) hSL) (by first | omega | (rw [show (set2 mem 35 1 0) 35 33 = mem 35 33 from s2_k (by decide)]; omega) | (rw [show (set2 mem 35 1 0) 35 0 = mem 35 0 from s2_k (by decide)]; omega)) (by omega) (by first | omega | (rw [show (set2 mem 35 1 0) 35 33 = mem 35 33 from s2_k (by decide)]; omega) | (rw [show (set2 mem 35 1 0) 35 0 = mem 35 0 from s2_k (by decide)]; omega))) MW_X12_makeAs 13 (by decide) (by exact hS.k35) wd_2008 wd_2010 wd_p85 (by decide +kernel) [] rfl rfl (by decide) (Nat.le_of_ble_eq_true rfl) (by decide) (kMV (fun m_5 h_6 => ?_))
      obtain ⟨hR_m_5, h_6⟩ := h_6
      have hK := h_6
      have hE : EQ36 mem m_5 := hK.1.e
      have e47 := congrFun (hE.at 47 (by decide)) p
      have hp9 := hE.fPG hp
      have hri0 : ∀ n : Int, 0 ≤ n → n < mem 47 p → 0 ≤ rightV m_5 p n ∧ rightV m_5 p n ≤ 200000000000001 := fun n h1 h2 => by rw [hE.frightV]; exact rightV_bd hp h1 h2
      have hw0 : ∀ n : Int, 0 ≤ n → n < mem 47 p → ((nearBy (wL (m_5 61 n)) (10 ^ (m_5 51 p).toNat) (m_5 53 p) = rightV m_5 p n) ↔ (keptV mem p (numQ mem p n q) = rightV mem p n)) := fun n h1 h2 => by rw [hK.2.1 n h1 h2, hE.at 51 (by decide), hE.at 53 (by decide), hE.frightV]; rfl
      refine jblk hF [(.iconst 0, 1), (.istore_n 3, 1), (.iconst 0, 1), (.istore 4, 2)] (by decide +kernel) (pc' := 29) (lo' := [(4, (0, 0)), (3, (0, 0)), (0, (2, 35)), (1, (0, p)), (2, (0, q))]) (st' := []) rfl ?_
      have L_8 : ∀ (fu_9 : Nat) (k : Int) (n : Int), (0 ≤ n ∧ n ≤ mem 47 p) → (k = wrongN mem p q n.toNat) →  (mem 47 p - n).toNat < fu_9 → J z g 5 0 0 (QM z g 0 0 (pMR 0 (fun v mem' => SR mem' ∧ (((isPg mem p ∧ isKn mem q) → v = wrongN mem p q (mem 47 p).toNat ∧ FR mem mem') ∧ (¬ (isPg mem p ∧ isKn mem q) → v = -1 ∧ mem' = mem))) kd ln sz)) 29 [(0, (2, 35)), (1, (0, p)), (2, (0, q)), (3, (0, k)), (4, (0, n))] [] kd ln m_5 sz := by
        intro fu_9
        induction fu_9 with
        | zero => intro k n _ _ hm; omega
        | succ fu_9 ih_7 =>
          intro k n hn1 hk hm
          have hb := wrongN_bd mem p q n.toNat
          refine jblk hF [(.iload 4, 2), (.aload_n 0, 1)] (by decide +kernel) (pc' := 32) (lo' := [(0, (2, 35)), (1, (0, p)), (2, (0, q)), (3, (0, k)), (4, (0, n))]) (st' := [(2, 35), (0, n)]) rfl ?_
          refine jget hF 13 22 2 22 rfl (by decide) (by decide) rfl wd_1485 (by decide +kernel) (by exact hS.k35) ?_
          rw [SR.r22 hR_m_5]
          refine jblk hF [(.iload_n 1, 1)] (by decide +kernel) (pc' := 36) (lo' := [(0, (2, 35)), (1, (0, p)), (2, (0, q)), (3, (0, k)), (4, (0, n))]) (st' := [(0, p), (2, 47), (0, n)]) rfl ?_
          refine jiald hF (by decide +kernel) (by exact hS.k47) (by omega) (by have := hS.l47; omega) ?_
          refine jicmp_ge hF (off := 40) 77 (by decide +kernel) (by decide) (by omega) (by omega) (fun h_10 => ?_) (fun h_10 => ?_)
          · refine jblk hF [(.iload_n 3, 1)] (by decide +kernel) (pc' := 78) (lo' := [(0, (2, 35)), (1, (0, p)), (2, (0, q)), (3, (0, k)), (4, (0, n))]) (st' := [(0, k)]) rfl ?_
            refine jiret hF hr (by decide +kernel) ?_
            exact lMR ⟨hR_m_5, by first | exact ⟨fun h => absurd h (by omega), fun _ => ⟨rfl, rfl⟩⟩ | exact ⟨fun _ => ⟨by rw [hk]; congr 1; omega, hK.1⟩, fun h => absurd (by omega) h⟩⟩
          · have hri := hri0 n (by omega) (by omega)
            have hw := hw0 n (by omega) (by omega)
            refine jblk hF [(.iload_n 3, 1), (.aload_n 0, 1), (.iload_n 1, 1), (.aload_n 0, 1)] (by decide +kernel) (pc' := 44) (lo' := [(0, (2, 35)), (1, (0, p)), (2, (0, q)), (3, (0, k)), (4, (0, n))]) (st' := [(2, 35), (0, p), (2, 35), (0, k)]) rfl ?_
            refine jget hF 13 37 2 37 rfl (by decide) (by decide) rfl wd_1500 (by decide +kernel) (by exact hS.k35) ?_
            rw [SR.r37 hR_m_5]
            refine jblk hF [(.iload 4, 2)] (by decide +kernel) (pc' := 49) (lo' := [(0, (2, 35)), (1, (0, p)), (2, (0, q)), (3, (0, k)), (4, (0, n))]) (st' := [(0, n), (2, 61), (0, p), (2, 35), (0, k)]) rfl ?_
            refine jlald hF (by decide +kernel) (by exact hS.k61) (by omega) (by have := hS.l61; omega) ?_
            refine jwL0 ?_
            refine jcallV hF (c_X12_keptOf hG hS hR_m_5 p (wL (m_5 61 n)) (by first | omega | exact hE.fPG hp | exact (EQ36.f _ _).fPG hp) (by first | exact wL_in _ | omega)) MW_X12_keptOf 13 (by decide) (by exact hS.k35) wd_2023 wd_2025 wd_p87 (by decide +kernel) [(0, k)] rfl rfl (by decide) (Nat.le_of_ble_eq_true rfl) (by decide) (kV ?_)
            have hf_11 := nearBy_in ((wL (m_5 61 n))) (10 ^ (m_5 51 p).toNat) (m_5 53 p) (wL_in _) ten_pos
            refine jblk hF [(.aload_n 0, 1), (.iload_n 1, 1), (.iload 4, 2)] (by decide +kernel) (pc' := 57) (lo' := [(0, (2, 35)), (1, (0, p)), (2, (0, q)), (3, (0, k)), (4, (0, n))]) (st' := [(0, n), (0, p), (2, 35), (1, nearBy (wL (m_5 61 n)) (10 ^ (m_5 51 p).toNat) (m_5 53 p)), (0, k)]) rfl ?_
            refine jcallV hF (c_X12_rightOf hG hS hR_m_5 p n (by first | omega | exact hE.fPG hp | exact (EQ36.f _ _).fPG hp) (by first | omega | (rw [hE.at 47 (by decide)]; omega) | (rw [(EQ36.f 1 0 : EQ36 mem _).at 47 (by decide)]; omega))) MW_X12_rightOf 13 (by decide) (by exact hS.k35) wd_2031 wd_2033 wd_p88 (by decide +kernel) [(1, nearBy (wL (m_5 61 n)) (10 ^ (m_5 51 p).toNat) (m_5 53 p)), (0, k)] rfl rfl (by decide) (Nat.le_of_ble_eq_true rfl) (by decide) (kV ?_)
            refine jlcmp_eq hF (off := 7) 68 (by decide +kernel) (by decide +kernel) (by decide) (by omega) (by omega) (fun h_12 => ?_) (fun h_12 => ?_)
            · refine jblk hF [(.iconst 0, 1), (.iadd, 1), (.istore_n 3, 1), (.iinc 4 1, 3)] (by decide +kernel) (pc' := 74) (lo' := [(4, (0, n + 1)), (3, (0, k + 0)), (0, (2, 35)), (1, (0, p)), (2, (0, q))]) (st' := []) rfl ?_
              refine jgoto hF (off := (-45)) 29 (by decide +kernel) (by decide) ?_
              refine jsub [2, 3, 4, 1, 0] rfl ?_
              refine ih_7 (k + 0) (n + 1) ?_ ?_ ?_
              · omega
              · rw [show (n + 1).toNat = n.toNat + 1 by omega, wrongN, show ((n.toNat : Nat) : Int) = n by omega]; split <;> omega
              · omega
            · refine jblk hF [(.iconst 1, 1)] (by decide +kernel) (pc' := 65) (lo' := [(0, (2, 35)), (1, (0, p)), (2, (0, q)), (3, (0, k)), (4, (0, n))]) (st' := [(0, 1), (0, k)]) rfl ?_
              refine jgoto hF (off := 4) 69 (by decide +kernel) (by decide) ?_
              refine jblk hF [(.iadd, 1), (.istore_n 3, 1), (.iinc 4 1, 3)] (by decide +kernel) (pc' := 74) (lo' := [(4, (0, n + 1)), (3, (0, k + 1)), (0, (2, 35)), (1, (0, p)), (2, (0, q))]) (st' := []) rfl ?_
              refine jgoto hF (off := (-45)) 29 (by decide +kernel) (by decide) ?_
              refine jsub [2, 3, 4, 1, 0] rfl ?_
              refine ih_7 (k + 1) (n + 1) ?_ ?_ ?_
              · omega
              · rw [show (n + 1).toNat = n.toNat + 1 by omega, wrongN, show ((n.toNat : Nat) : Int) = n by omega]; split <;> omega
              · omega
      refine jsub [2, 3, 4, 1, 0] rfl ?_
      refine L_8 _ 0 0 ?_ ?_ (Nat.lt_succ_self _)
      · omega
      · rfl
    · refine jif_ne hF (off := 5) 18 (by decide +kernel) (by decide) (by decide) (fun h => absurd h (by decide)) (fun _ => ?_)
      refine jblk hF [(.iconst (-1), 1)] (by decide +kernel) (pc' := 17) (lo' := [(0, (2, 35)), (1, (0, p)), (2, (0, q))]) (st' := [(0, (-1))]) rfl ?_
      refine jiret hF hr (by decide +kernel) ?_
      exact lMR ⟨hR, by first | exact ⟨fun h => absurd h (by omega), fun _ => ⟨rfl, rfl⟩⟩ | exact ⟨fun _ => ⟨by rw [hk]; congr 1; omega, hK.1⟩, fun h => absurd (by omega) h⟩⟩
  · refine jif_eq hF (off := 11) 16 (by decide +kernel) (by decide) (by decide) (fun _ => ?_) (fun h => absurd h (by decide))
    refine jblk hF [(.iconst (-1), 1)] (by decide +kernel) (pc' := 17) (lo' := [(0, (2, 35)), (1, (0, p)), (2, (0, q))]) (st' := [(0, (-1))]) rfl ?_
    refine jiret hF hr (by decide +kernel) ?_
    exact lMR ⟨hR, by first | exact ⟨fun h => absurd h (by omega), fun _ => ⟨rfl, rfl⟩⟩ | exact ⟨fun _ => ⟨by rw [hk]; congr 1; omega, hK.1⟩, fun h => absurd (by omega) h⟩⟩
end
