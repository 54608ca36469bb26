section LOOP
set_option maxRecDepth 100000 in
theorem d_sw : decode code 40 = .ok (.tableswitch 3017 0 57 #[248, 273, 298, 311, 360, 410, 459, 509, 582, 607, 620, 633, 737, 798, 835, 884, 951, 1042, 1103, 1128, 1177, 1256, 1323, 1360, 1427, 1465, 1490, 1527, 1576, 1613, 1650, 1687, 1736, 1785, 1834, 1908, 1933, 1982, 2055, 2092, 2117, 2178, 2245, 2282, 2307, 2434, 2471, 2538, 2563, 2588, 2669, 2706, 2731, 2780, 2805, 2866, 2891, 2992], 248) := by decide +kernel
set_option maxHeartbeats 4000000 in
set_option maxRecDepth 100000 in
theorem law_sw {z : ZT} {l : Launch} {g : GP} {cells slots : Nat} {Q : State → Prop} {kd : Int → Nat} {ln : Int → Int} {mem : Int → Int → Int} {sz : Nat} {L i : Int} {S : Int → Int} (hF : FX z l g 8 code "FigureHouseLaw" room_1) (hG : GH g) (hl : l.stackTraces = false) (hTH : THW g) (hTN : TNS g) (hEM : EMP g) (mi : Nat) (hMi : va_Mi "[Ljava/lang/Object;" mi (gs g)) (hS : SCR g L S) (hi : 0 ≤ i ∧ i + 8 ≤ L) (hrm : (∀ k : Nat, k ≤ cells + 40 → k ≤ room_1.cells) ∧ ∀ k : Nat, k ≤ slots + 2000 → k ≤ room_1.slots) (hx : LINV kd ln mem sz) (kk : ∀ (kd' : Int → Nat) (ln' : Int → Int) (mem' : Int → Int → Int) (sz' : Nat), LINV kd' ln' mem' sz' → J z g 8 (cells + 40) (slots + 2000) Q 3057 [(0, (2, 2)), (1, (2, 3)), (2, (2, 35)), (3, (2, 100)), (4, (0, i))] [] kd' ln' mem' sz') (x : Int) (hxI : InI x) : J z g 8 cells slots Q 40 [(0, (2, 2)), (1, (2, 3)), (2, (2, 35)), (3, (2, 100)), (4, (0, i))] [(0, x)] kd ln mem sz := by
  by_cases c0 : x < 0 ∨ 57 < x
  · exact jtabOut hF 3057 d_sw hxI c0 (by decide) (jwiden (k := cells + 40) (n := slots + 2000) (by omega) (by omega) (kk kd ln mem sz hx))
  by_cases c_0_57 : x ≤ 28
  · by_cases c_0_28 : x ≤ 14
    · by_cases c_0_14 : x ≤ 7
      · by_cases c_0_7 : x ≤ 3
        · by_cases c_0_3 : x ≤ 1
          · by_cases c_0_1 : x ≤ 0
            · exact jtabIn hF 0 248 288 d_sw (by omega) (by decide) (by decide) (by decide) rfl (by decide) (lc_0 hF hG hl hTH hTN hEM mi hMi hS hi hrm hx kk)
            · exact jtabIn hF 1 273 313 d_sw (by omega) (by decide) (by decide) (by decide) rfl (by decide) (lc_1 hF hG hl hTH hTN hEM mi hMi hS hi hrm hx kk)
          · by_cases c_2_3 : x ≤ 2
            · exact jtabIn hF 2 298 338 d_sw (by omega) (by decide) (by decide) (by decide) rfl (by decide) (lc_2 hF hG hl hTH hTN hEM mi hMi hS hi hrm hx kk)
            · exact jtabIn hF 3 311 351 d_sw (by omega) (by decide) (by decide) (by decide) rfl (by decide) (lc_3 hF hG hl hTH hTN hEM mi hMi hS hi hrm hx kk)
        · by_cases c_4_7 : x ≤ 5
          · by_cases c_4_5 : x ≤ 4
            · exact jtabIn hF 4 360 400 d_sw (by omega) (by decide) (by decide) (by decide) rfl (by decide) (lc_4 hF hG hl hTH hTN hEM mi hMi hS hi hrm hx kk)
            · exact jtabIn hF 5 410 450 d_sw (by omega) (by decide) (by decide) (by decide) rfl (by decide) (lc_5 hF hG hl hTH hTN hEM mi hMi hS hi hrm hx kk)
          · by_cases c_6_7 : x ≤ 6
            · exact jtabIn hF 6 459 499 d_sw (by omega) (by decide) (by decide) (by decide) rfl (by decide) (lc_6 hF hG hl hTH hTN hEM mi hMi hS hi hrm hx kk)
            · exact jtabIn hF 7 509 549 d_sw (by omega) (by decide) (by decide) (by decide) rfl (by decide) (lc_7 hF hG hl hTH hTN hEM mi hMi hS hi hrm hx kk)
      · by_cases c_8_14 : x ≤ 11
        · by_cases c_8_11 : x ≤ 9
          · by_cases c_8_9 : x ≤ 8
            · exact jtabIn hF 8 582 622 d_sw (by omega) (by decide) (by decide) (by decide) rfl (by decide) (lc_8 hF hG hl hTH hTN hEM mi hMi hS hi hrm hx kk)
            · exact jtabIn hF 9 607 647 d_sw (by omega) (by decide) (by decide) (by decide) rfl (by decide) (lc_9 hF hG hl hTH hTN hEM mi hMi hS hi hrm hx kk)
          · by_cases c_10_11 : x ≤ 10
            · exact jtabIn hF 10 620 660 d_sw (by omega) (by decide) (by decide) (by decide) rfl (by decide) (lc_10 hF hG hl hTH hTN hEM mi hMi hS hi hrm hx kk)
            · exact jtabIn hF 11 633 673 d_sw (by omega) (by decide) (by decide) (by decide) rfl (by decide) (lc_11 hF hG hl hTH hTN hEM mi hMi hS hi hrm hx kk)
        · by_cases c_12_14 : x ≤ 13
          · by_cases c_12_13 : x ≤ 12
            · exact jtabIn hF 12 737 777 d_sw (by omega) (by decide) (by decide) (by decide) rfl (by decide) (lc_12 hF hG hl hTH hTN hEM mi hMi hS hi hrm hx kk)
            · exact jtabIn hF 13 798 838 d_sw (by omega) (by decide) (by decide) (by decide) rfl (by decide) (lc_13 hF hG hl hTH hTN hEM mi hMi hS hi hrm hx kk)
          · exact jtabIn hF 14 835 875 d_sw (by omega) (by decide) (by decide) (by decide) rfl (by decide) (lc_14 hF hG hl hTH hTN hEM mi hMi hS hi hrm hx kk)
    · by_cases c_15_28 : x ≤ 21
      · by_cases c_15_21 : x ≤ 18
        · by_cases c_15_18 : x ≤ 16
          · by_cases c_15_16 : x ≤ 15
            · exact jtabIn hF 15 884 924 d_sw (by omega) (by decide) (by decide) (by decide) rfl (by decide) (lc_15 hF hG hl hTH hTN hEM mi hMi hS hi hrm hx kk)
            · exact jtabIn hF 16 951 991 d_sw (by omega) (by decide) (by decide) (by decide) rfl (by decide) (lc_16 hF hG hl hTH hTN hEM mi hMi hS hi hrm hx kk)
          · by_cases c_17_18 : x ≤ 17
            · exact jtabIn hF 17 1042 1082 d_sw (by omega) (by decide) (by decide) (by decide) rfl (by decide) (lc_17 hF hG hl hTH hTN hEM mi hMi hS hi hrm hx kk)
            · exact jtabIn hF 18 1103 1143 d_sw (by omega) (by decide) (by decide) (by decide) rfl (by decide) (lc_18 hF hG hl hTH hTN hEM mi hMi hS hi hrm hx kk)
        · by_cases c_19_21 : x ≤ 20
          · by_cases c_19_20 : x ≤ 19
            · exact jtabIn hF 19 1128 1168 d_sw (by omega) (by decide) (by decide) (by decide) rfl (by decide) (lc_19 hF hG hl hTH hTN hEM mi hMi hS hi hrm hx kk)
            · exact jtabIn hF 20 1177 1217 d_sw (by omega) (by decide) (by decide) (by decide) rfl (by decide) (lc_20 hF hG hl hTH hTN hEM mi hMi hS hi hrm hx kk)
          · exact jtabIn hF 21 1256 1296 d_sw (by omega) (by decide) (by decide) (by decide) rfl (by decide) (lc_21 hF hG hl hTH hTN hEM mi hMi hS hi hrm hx kk)
      · by_cases c_22_28 : x ≤ 25
        · by_cases c_22_25 : x ≤ 23
          · by_cases c_22_23 : x ≤ 22
            · exact jtabIn hF 22 1323 1363 d_sw (by omega) (by decide) (by decide) (by decide) rfl (by decide) (lc_22 hF hG hl hTH hTN hEM mi hMi hS hi hrm hx kk)
            · exact jtabIn hF 23 1360 1400 d_sw (by omega) (by decide) (by decide) (by decide) rfl (by decide) (lc_23 hF hG hl hTH hTN hEM mi hMi hS hi hrm hx kk)
          · by_cases c_24_25 : x ≤ 24
            · exact jtabIn hF 24 1427 1467 d_sw (by omega) (by decide) (by decide) (by decide) rfl (by decide) (lc_24 hF hG hl hTH hTN hEM mi hMi hS hi hrm hx kk)
            · exact jtabIn hF 25 1465 1505 d_sw (by omega) (by decide) (by decide) (by decide) rfl (by decide) (lc_25 hF hG hl hTH hTN hEM mi hMi hS hi hrm hx kk)
        · by_cases c_26_28 : x ≤ 27
          · by_cases c_26_27 : x ≤ 26
            · exact jtabIn hF 26 1490 1530 d_sw (by omega) (by decide) (by decide) (by decide) rfl (by decide) (lc_26 hF hG hl hTH hTN hEM mi hMi hS hi hrm hx kk)
            · exact jtabIn hF 27 1527 1567 d_sw (by omega) (by decide) (by decide) (by decide) rfl (by decide) (lc_27 hF hG hl hTH hTN hEM mi hMi hS hi hrm hx kk)
          · exact jtabIn hF 28 1576 1616 d_sw (by omega) (by decide) (by decide) (by decide) rfl (by decide) (lc_28 hF hG hl hTH hTN hEM mi hMi hS hi hrm hx kk)
  · by_cases c_29_57 : x ≤ 43
    · by_cases c_29_43 : x ≤ 36
      · by_cases c_29_36 : x ≤ 32
        · by_cases c_29_32 : x ≤ 30
          · by_cases c_29_30 : x ≤ 29
            · exact jtabIn hF 29 1613 1653 d_sw (by omega) (by decide) (by decide) (by decide) rfl (by decide) (lc_29 hF hG hl hTH hTN hEM mi hMi hS hi hrm hx kk)
            · exact jtabIn hF 30 1650 1690 d_sw (by omega) (by decide) (by decide) (by decide) rfl (by decide) (lc_30 hF hG hl hTH hTN hEM mi hMi hS hi hrm hx kk)
          · by_cases c_31_32 : x ≤ 31
            · exact jtabIn hF 31 1687 1727 d_sw (by omega) (by decide) (by decide) (by decide) rfl (by decide) (lc_31 hF hG hl hTH hTN hEM mi hMi hS hi hrm hx kk)
            · exact jtabIn hF 32 1736 1776 d_sw (by omega) (by decide) (by decide) (by decide) rfl (by decide) (lc_32 hF hG hl hTH hTN hEM mi hMi hS hi hrm hx kk)
        · by_cases c_33_36 : x ≤ 34
          · by_cases c_33_34 : x ≤ 33
            · exact jtabIn hF 33 1785 1825 d_sw (by omega) (by decide) (by decide) (by decide) rfl (by decide) (lc_33 hF hG hl hTH hTN hEM mi hMi hS hi hrm hx kk)
            · exact jtabIn hF 34 1834 1874 d_sw (by omega) (by decide) (by decide) (by decide) rfl (by decide) (lc_34 hF hG hl hTH hTN hEM mi hMi hS hi hrm hx kk)
          · by_cases c_35_36 : x ≤ 35
            · exact jtabIn hF 35 1908 1948 d_sw (by omega) (by decide) (by decide) (by decide) rfl (by decide) (lc_35 hF hG hl hTH hTN hEM mi hMi hS hi hrm hx kk)
            · exact jtabIn hF 36 1933 1973 d_sw (by omega) (by decide) (by decide) (by decide) rfl (by decide) (lc_36 hF hG hl hTH hTN hEM mi hMi hS hi hrm hx kk)
      · by_cases c_37_43 : x ≤ 40
        · by_cases c_37_40 : x ≤ 38
          · by_cases c_37_38 : x ≤ 37
            · exact jtabIn hF 37 1982 2022 d_sw (by omega) (by decide) (by decide) (by decide) rfl (by decide) (lc_37 hF hG hl hTH hTN hEM mi hMi hS hi hrm hx kk)
            · exact jtabIn hF 38 2055 2095 d_sw (by omega) (by decide) (by decide) (by decide) rfl (by decide) (lc_38 hF hG hl hTH hTN hEM mi hMi hS hi hrm hx kk)
          · by_cases c_39_40 : x ≤ 39
            · exact jtabIn hF 39 2092 2132 d_sw (by omega) (by decide) (by decide) (by decide) rfl (by decide) (lc_39 hF hG hl hTH hTN hEM mi hMi hS hi hrm hx kk)
            · exact jtabIn hF 40 2117 2157 d_sw (by omega) (by decide) (by decide) (by decide) rfl (by decide) (lc_40 hF hG hl hTH hTN hEM mi hMi hS hi hrm hx kk)
        · by_cases c_41_43 : x ≤ 42
          · by_cases c_41_42 : x ≤ 41
            · exact jtabIn hF 41 2178 2218 d_sw (by omega) (by decide) (by decide) (by decide) rfl (by decide) (lc_41 hF hG hl hTH hTN hEM mi hMi hS hi hrm hx kk)
            · exact jtabIn hF 42 2245 2285 d_sw (by omega) (by decide) (by decide) (by decide) rfl (by decide) (lc_42 hF hG hl hTH hTN hEM mi hMi hS hi hrm hx kk)
          · exact jtabIn hF 43 2282 2322 d_sw (by omega) (by decide) (by decide) (by decide) rfl (by decide) (lc_43 hF hG hl hTH hTN hEM mi hMi hS hi hrm hx kk)
    · by_cases c_44_57 : x ≤ 50
      · by_cases c_44_50 : x ≤ 47
        · by_cases c_44_47 : x ≤ 45
          · by_cases c_44_45 : x ≤ 44
            · exact jtabIn hF 44 2307 2347 d_sw (by omega) (by decide) (by decide) (by decide) rfl (by decide) (lc_44 hF hG hl hTH hTN hEM mi hMi hS hi hrm hx kk)
            · exact jtabIn hF 45 2434 2474 d_sw (by omega) (by decide) (by decide) (by decide) rfl (by decide) (lc_45 hF hG hl hTH hTN hEM mi hMi hS hi hrm hx kk)
          · by_cases c_46_47 : x ≤ 46
            · exact jtabIn hF 46 2471 2511 d_sw (by omega) (by decide) (by decide) (by decide) rfl (by decide) (lc_46 hF hG hl hTH hTN hEM mi hMi hS hi hrm hx kk)
            · exact jtabIn hF 47 2538 2578 d_sw (by omega) (by decide) (by decide) (by decide) rfl (by decide) (lc_47 hF hG hl hTH hTN hEM mi hMi hS hi hrm hx kk)
        · by_cases c_48_50 : x ≤ 49
          · by_cases c_48_49 : x ≤ 48
            · exact jtabIn hF 48 2563 2603 d_sw (by omega) (by decide) (by decide) (by decide) rfl (by decide) (lc_48 hF hG hl hTH hTN hEM mi hMi hS hi hrm hx kk)
            · exact jtabIn hF 49 2588 2628 d_sw (by omega) (by decide) (by decide) (by decide) rfl (by decide) (lc_49 hF hG hl hTH hTN hEM mi hMi hS hi hrm hx kk)
          · exact jtabIn hF 50 2669 2709 d_sw (by omega) (by decide) (by decide) (by decide) rfl (by decide) (lc_50 hF hG hl hTH hTN hEM mi hMi hS hi hrm hx kk)
      · by_cases c_51_57 : x ≤ 54
        · by_cases c_51_54 : x ≤ 52
          · by_cases c_51_52 : x ≤ 51
            · exact jtabIn hF 51 2706 2746 d_sw (by omega) (by decide) (by decide) (by decide) rfl (by decide) (lc_51 hF hG hl hTH hTN hEM mi hMi hS hi hrm hx kk)
            · exact jtabIn hF 52 2731 2771 d_sw (by omega) (by decide) (by decide) (by decide) rfl (by decide) (lc_52 hF hG hl hTH hTN hEM mi hMi hS hi hrm hx kk)
          · by_cases c_53_54 : x ≤ 53
            · exact jtabIn hF 53 2780 2820 d_sw (by omega) (by decide) (by decide) (by decide) rfl (by decide) (lc_53 hF hG hl hTH hTN hEM mi hMi hS hi hrm hx kk)
            · exact jtabIn hF 54 2805 2845 d_sw (by omega) (by decide) (by decide) (by decide) rfl (by decide) (lc_54 hF hG hl hTH hTN hEM mi hMi hS hi hrm hx kk)
        · by_cases c_55_57 : x ≤ 56
          · by_cases c_55_56 : x ≤ 55
            · exact jtabIn hF 55 2866 2906 d_sw (by omega) (by decide) (by decide) (by decide) rfl (by decide) (lc_55 hF hG hl hTH hTN hEM mi hMi hS hi hrm hx kk)
            · exact jtabIn hF 56 2891 2931 d_sw (by omega) (by decide) (by decide) (by decide) rfl (by decide) (lc_56 hF hG hl hTH hTN hEM mi hMi hS hi hrm hx kk)
          · exact jtabIn hF 57 2992 3032 d_sw (by omega) (by decide) (by decide) (by decide) rfl (by decide) (lc_57 hF hG hl hTH hTN hEM mi hMi hS hi hrm hx kk)
set_option maxHeartbeats 4000000 in
set_option maxRecDepth 100000 in
theorem law_it {z : ZT} {l : Launch} {g : GP} {Q : State → Prop} {L : Int} {S : Int → Int} (hF : FX z l g 8 code "FigureHouseLaw" room_1) (hG : GH g) (hl : l.stackTraces = false) (hTH : THW g) (hTN : TNS g) (hEM : EMP g) (mi : Nat) (hMi : va_Mi "[Ljava/lang/Object;" mi (gs g)) (hS : SCR g L S) (hL : 0 ≤ L ∧ L ≤ 4096) (kend : ∀ (i : Int) (kd : Int → Nat) (ln : Int → Int) (mem : Int → Int → Int) (sz : Nat), J z g 8 601024 7293034 Q 3063 [(0, (2, 2)), (1, (2, 3)), (2, (2, 35)), (3, (2, 100)), (4, (0, i))] [] kd ln mem sz) : ∀ n : Nat, n ≤ 512 → ∀ (i : Int) (kd : Int → Nat) (ln : Int → Int) (mem : Int → Int → Int) (sz : Nat), 0 ≤ i → i ≤ 5000 → L - 8 < i + 8 * n → LINV kd ln mem sz → J z g 8 (601024 - 40 * n) (7293034 - 2000 * n) Q 23 [(0, (2, 2)), (1, (2, 3)), (2, (2, 35)), (3, (2, 100)), (4, (0, i))] [] kd ln mem sz := by
  intro n
  induction n with
  | zero =>
    intro hn i kd ln mem sz h0 h5 hm hx
    refine jblk hF [(.iload 4, 2), (.aload_n 0, 1)] (by decide +kernel) (pc' := 26) (lo' := [(0, (2, 2)), (1, (2, 3)), (2, (2, 35)), (3, (2, 100)), (4, (0, i))]) (st' := [(2, 2), (0, i)]) rfl ?_
    refine jslen hF hS (by decide +kernel) ?_
    refine jblk hF [(.bipush 8, 2), (.isub, 1)] (by decide +kernel) (pc' := 30) (lo' := [(0, (2, 2)), (1, (2, 3)), (2, (2, 35)), (3, (2, 100)), (4, (0, i))]) (st' := [(0, L - 8), (0, i)]) rfl ?_
    refine jicmp_gt hF (off := 3033) 3063 (by decide +kernel) (by decide) ⟨by omega, by omega⟩ ⟨by omega, by omega⟩ (fun _ => ?_) (fun c => absurd (by omega) c)
    exact kend i kd ln mem sz
  | succ n ih =>
    intro hn i kd ln mem sz h0 h5 hm hx
    refine jblk hF [(.iload 4, 2), (.aload_n 0, 1)] (by decide +kernel) (pc' := 26) (lo' := [(0, (2, 2)), (1, (2, 3)), (2, (2, 35)), (3, (2, 100)), (4, (0, i))]) (st' := [(2, 2), (0, i)]) rfl ?_
    refine jslen hF hS (by decide +kernel) ?_
    refine jblk hF [(.bipush 8, 2), (.isub, 1)] (by decide +kernel) (pc' := 30) (lo' := [(0, (2, 2)), (1, (2, 3)), (2, (2, 35)), (3, (2, 100)), (4, (0, i))]) (st' := [(0, L - 8), (0, i)]) rfl ?_
    refine jicmp_gt hF (off := 3033) 3063 (by decide +kernel) (by decide) ⟨by omega, by omega⟩ ⟨by omega, by omega⟩ (fun _ => ?_) (fun c => ?_)
    · exact jwiden (k := 601024) (n := 7293034) (by omega) (by omega) (kend i kd ln mem sz)
    · refine jblk hF [(.aload_n 0, 1), (.iload 4, 2)] (by decide +kernel) (pc' := 36) (lo' := [(0, (2, 2)), (1, (2, 3)), (2, (2, 35)), (3, (2, 100)), (4, (0, i))]) (st' := [(0, i), (2, 2)]) rfl ?_
      refine jsld hF hS (by decide +kernel) h0 (by omega) ?_
      obtain ⟨w, hw⟩ : ∃ w : Int, w = S i := ⟨_, rfl⟩
      rw [← hw]
      refine jblk hF [(.bipush 63, 2), (.iand, 1)] (by decide +kernel) (pc' := 40) (lo' := [(0, (2, 2)), (1, (2, 3)), (2, (2, 35)), (3, (2, 100)), (4, (0, i))]) (st' := [(0, fand w 63)]) rfl ?_
      refine law_sw hF hG hl hTH hTN hEM mi hMi hS ⟨h0, by omega⟩ ⟨fun k hk => Nat.le_trans hk (Nat.le_trans (by omega : 601024 - 40 * (n + 1) + 40 ≤ 601024) (Nat.le_of_ble_eq_true rfl)), fun k hk => Nat.le_trans hk (Nat.le_trans (by omega : 7293034 - 2000 * (n + 1) + 2000 ≤ 7293034) (Nat.le_of_ble_eq_true rfl))⟩ hx (fun kd' ln' mem' sz' hx' => ?_) (fand w 63) (I_in _)
      refine jblk hF [(.iinc 4 8, 3)] (by decide +kernel) (pc' := 3060) (lo' := [(4, (0, i + 8)), (0, (2, 2)), (1, (2, 3)), (2, (2, 35)), (3, (2, 100))]) (st' := []) rfl ?_
      refine jsub [1, 2, 3, 4, 0] rfl ?_
      refine jgoto hF (off := -3037) 23 (by decide +kernel) (by decide) ?_
      refine jwiden (k := 601024 - 40 * n) (n := 7293034 - 2000 * n) (by omega) (by omega) ?_
      exact ih (by omega) (i + 8) kd' ln' mem' sz' (by omega) (by omega) (by omega) hx'
end LOOP
