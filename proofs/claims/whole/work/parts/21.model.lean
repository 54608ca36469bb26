section
set_option maxHeartbeats 4000000 in
set_option maxRecDepth 100000 in
theorem c_X12_nearestBy {l : Launch} {g : GP} (hG : GH g) {kd : Int → Nat} {ln : Int → Int} {mem : Int → Int → Int} {sz : Nat} (a b half : Int) (ha : InL a) (hb : 1 ≤ b ∧ b ≤ 1000000000000) (hh : 0 ≤ half ∧ half ≤ 2) : MT l g yX12_nearestBy cX12_nearestBy 9 (some .long) 1 0 0 [(1, a), (1, b), (0, half)] kd ln mem sz (pV (1, nearBy a b half) kd ln mem sz) := by
  refine MT_of hG (by decide +kernel) (Nat.le_of_ble_eq_true rfl) (fun z hF hr hn => ?_)
  refine jblk hF [(.lload_n 0, 1), (.lload_n 2, 1)] (by decide +kernel) (pc' := 2) (lo' := [(0, (1, a)), (2, (1, b)), (4, (0, half))]) (st' := [(1, b), (1, a)]) rfl ?_
  refine jcallS hF (c_J9_floorDiv_f86c9 hG a b (by omega) (by omega)) MW_J9_floorDiv_f86c9 wd_1809 wd_537 (by decide +kernel) [] rfl rfl (by decide) (Nat.le_of_ble_eq_true rfl) (by decide) (kV ?_)
  have hq := ediv_bd a b (by omega)
  have hq2 := ediv_mul_bd a b (by omega)
  refine jblk hF [(.lstore 5, 2)] (by decide +kernel) (pc' := 7) (lo' := [(5, (1, a / b)), (0, (1, a)), (2, (1, b)), (4, (0, half))]) (st' := []) rfl ?_
  refine jldc2 hF 2 (cst_l wd_1782 (by decide)) (by decide +kernel) ?_
  refine jblk hF [(.lload_n 0, 1), (.lload 5, 2), (.lload_n 2, 1), (.lmul, 1), (.lsub, 1), (.lmul, 1), (.lstore 7, 2), (.lload 7, 2), (.lload_n 2, 1)] (by decide +kernel) (pc' := 22) (lo' := [(7, (1, 2 * (a - ((a / b) * b)))), (5, (1, a / b)), (0, (1, a)), (2, (1, b)), (4, (0, half))]) (st' := [(1, b), (1, 2 * (a - ((a / b) * b)))]) rfl ?_
  refine jlcmp_eq hF (off := 20) 43 (by decide +kernel) (by decide +kernel) (by decide) (by omega) (by omega) (fun h_1 => ?_) (fun h_1 => ?_)
  · refine jblk hF [(.iload 4, 2)] (by decide +kernel) (pc' := 45) (lo' := [(7, (1, 2 * (a - ((a / b) * b)))), (5, (1, a / b)), (0, (1, a)), (2, (1, b)), (4, (0, half))]) (st' := [(0, half)]) rfl ?_
    refine jif_eq hF (off := 20) 65 (by decide +kernel) (by decide) (by omega) (fun h_2 => ?_) (fun h_2 => ?_)
    · refine jblk hF [(.lload 5, 2)] (by decide +kernel) (pc' := 67) (lo' := [(7, (1, 2 * (a - ((a / b) * b)))), (5, (1, a / b)), (0, (1, a)), (2, (1, b)), (4, (0, half))]) (st' := [(1, a / b)]) rfl ?_
      refine jlconst hF (n := 1) 1 rfl (by decide +kernel) ?_
      refine jblk hF [(.ladd, 1)] (by decide +kernel) (pc' := 69) (lo' := [(7, (1, 2 * (a - ((a / b) * b)))), (5, (1, a / b)), (0, (1, a)), (2, (1, b)), (4, (0, half))]) (st' := [(1, (a / b) + 1)]) rfl ?_
      refine jgoto hF (off := 5) 74 (by decide +kernel) (by decide) ?_
      refine jlret hF hr (by decide +kernel) ?_
      exact lV (by unfold nearBy; (repeat' split) <;> omega)
    · refine jblk hF [(.iload 4, 2), (.iconst 1, 1)] (by decide +kernel) (pc' := 51) (lo' := [(7, (1, 2 * (a - ((a / b) * b)))), (5, (1, a / b)), (0, (1, a)), (2, (1, b)), (4, (0, half))]) (st' := [(0, 1), (0, half)]) rfl ?_
      refine jicmp_ne hF (off := 21) 72 (by decide +kernel) (by decide) (by omega) (by decide) (fun h_3 => ?_) (fun h_3 => ?_)
      · refine jblk hF [(.lload 5, 2)] (by decide +kernel) (pc' := 74) (lo' := [(7, (1, 2 * (a - ((a / b) * b)))), (5, (1, a / b)), (0, (1, a)), (2, (1, b)), (4, (0, half))]) (st' := [(1, a / b)]) rfl ?_
        refine jlret hF hr (by decide +kernel) ?_
        exact lV (by unfold nearBy; (repeat' split) <;> omega)
      · refine jblk hF [(.lload 5, 2)] (by decide +kernel) (pc' := 56) (lo' := [(7, (1, 2 * (a - ((a / b) * b)))), (5, (1, a / b)), (0, (1, a)), (2, (1, b)), (4, (0, half))]) (st' := [(1, a / b)]) rfl ?_
        refine jldc2 hF 2 (cst_l wd_1782 (by decide)) (by decide +kernel) ?_
        refine jlrem hF (by decide +kernel) (by omega) (by omega) (by omega) ?_
        have ht := fmod_t (a / b) 2 (by omega)
        refine jlconst hF (n := 0) 0 rfl (by decide +kernel) ?_
        refine jlcmp_eq hF (off := 10) 72 (by decide +kernel) (by decide +kernel) (by decide) (by omega) (by decide) (fun h_4 => ?_) (fun h_4 => ?_)
        · refine jblk hF [(.lload 5, 2)] (by decide +kernel) (pc' := 74) (lo' := [(7, (1, 2 * (a - ((a / b) * b)))), (5, (1, a / b)), (0, (1, a)), (2, (1, b)), (4, (0, half))]) (st' := [(1, a / b)]) rfl ?_
          refine jlret hF hr (by decide +kernel) ?_
          exact lV (by unfold nearBy; (repeat' split) <;> omega)
        · refine jblk hF [(.lload 5, 2)] (by decide +kernel) (pc' := 67) (lo' := [(7, (1, 2 * (a - ((a / b) * b)))), (5, (1, a / b)), (0, (1, a)), (2, (1, b)), (4, (0, half))]) (st' := [(1, a / b)]) rfl ?_
          refine jlconst hF (n := 1) 1 rfl (by decide +kernel) ?_
          refine jblk hF [(.ladd, 1)] (by decide +kernel) (pc' := 69) (lo' := [(7, (1, 2 * (a - ((a / b) * b)))), (5, (1, a / b)), (0, (1, a)), (2, (1, b)), (4, (0, half))]) (st' := [(1, (a / b) + 1)]) rfl ?_
          refine jgoto hF (off := 5) 74 (by decide +kernel) (by decide) ?_
          refine jlret hF hr (by decide +kernel) ?_
          exact lV (by unfold nearBy; (repeat' split) <;> omega)
  · refine jblk hF [(.lload 7, 2), (.lload_n 2, 1)] (by decide +kernel) (pc' := 29) (lo' := [(7, (1, 2 * (a - ((a / b) * b)))), (5, (1, a / b)), (0, (1, a)), (2, (1, b)), (4, (0, half))]) (st' := [(1, b), (1, 2 * (a - ((a / b) * b)))]) rfl ?_
    refine jlcmp_le hF (off := 10) 40 (by decide +kernel) (by decide +kernel) (by decide) (by omega) (by omega) (fun h_5 => ?_) (fun h_5 => ?_)
    · refine jblk hF [(.lload 5, 2)] (by decide +kernel) (pc' := 42) (lo' := [(7, (1, 2 * (a - ((a / b) * b)))), (5, (1, a / b)), (0, (1, a)), (2, (1, b)), (4, (0, half))]) (st' := [(1, a / b)]) rfl ?_
      refine jlret hF hr (by decide +kernel) ?_
      exact lV (by unfold nearBy; (repeat' split) <;> omega)
    · refine jblk hF [(.lload 5, 2)] (by decide +kernel) (pc' := 35) (lo' := [(7, (1, 2 * (a - ((a / b) * b)))), (5, (1, a / b)), (0, (1, a)), (2, (1, b)), (4, (0, half))]) (st' := [(1, a / b)]) rfl ?_
      refine jlconst hF (n := 1) 1 rfl (by decide +kernel) ?_
      refine jblk hF [(.ladd, 1)] (by decide +kernel) (pc' := 37) (lo' := [(7, (1, 2 * (a - ((a / b) * b)))), (5, (1, a / b)), (0, (1, a)), (2, (1, b)), (4, (0, half))]) (st' := [(1, (a / b) + 1)]) rfl ?_
      refine jgoto hF (off := 5) 42 (by decide +kernel) (by decide) ?_
      refine jlret hF hr (by decide +kernel) ?_
      exact lV (by unfold nearBy; (repeat' split) <;> omega)
set_option maxHeartbeats 4000000 in
set_option maxRecDepth 100000 in
theorem c_X12_nearestOf {l : Launch} {g : GP} (hG : GH g) {kd : Int → Nat} {ln : Int → Int} {mem : Int → Int → Int} {sz : Nat} (hS : SK kd ln) (hR : SR mem) (f x p half : Int) (hf : FN mem f) (hx : XP x p) (hh : 0 ≤ half ∧ half ≤ 2) : MT l g yX12_nearestOf cX12_nearestOf 9 (some .long) 2 0 0 [(2, 35), (0, f), (0, x), (0, p), (0, half)] kd ln mem sz (pV (1, nearV (mem 36 f) (mem 37 f) (mem 38 f) x p half) kd ln mem sz) := by
  refine MT_of hG (by decide +kernel) (Nat.le_of_ble_eq_true rfl) (fun z hF hr hn => ?_)
  refine jblk hF [(.aload_n 0, 1)] (by decide +kernel) (pc' := 1) (lo' := [(0, (2, 35)), (1, (0, f)), (2, (0, x)), (3, (0, p)), (4, (0, half))]) (st' := [(2, 35)]) rfl ?_
  refine jget hF 13 3 2 3 rfl (by decide) (by decide) rfl wd_1466 (by decide +kernel) (by exact hS.k35) ?_
  rw [SR.r3 hR]
  refine jblk hF [(.iload_n 1, 1)] (by decide +kernel) (pc' := 5) (lo' := [(0, (2, 35)), (1, (0, f)), (2, (0, x)), (3, (0, p)), (4, (0, half))]) (st' := [(0, f), (2, 36)]) rfl ?_
  refine jiald hF (by decide +kernel) (by exact hS.k36) (by omega) (by have := hS.l36; omega) ?_
  refine jif_ne hF (off := 43) 49 (by decide +kernel) (by decide) (by omega) (fun h_1 => ?_) (fun h_1 => ?_)
  · refine jblk hF [(.aload_n 0, 1), (.iload_n 1, 1), (.iload_n 2, 1), (.iload_n 3, 1)] (by decide +kernel) (pc' := 53) (lo' := [(0, (2, 35)), (1, (0, f)), (2, (0, x)), (3, (0, p)), (4, (0, half))]) (st' := [(0, p), (0, x), (0, f), (2, 35)]) rfl ?_
    refine jcallV hF (c_X12_above hG hS hR f x p (by omega) (by omega)) MW_X12_above 13 (by decide) (by exact hS.k35) wd_1783 wd_1785 wd_p51 (by decide +kernel) [] rfl rfl (by decide) (Nat.le_of_ble_eq_true rfl) (by decide) (kV ?_)
    have hf_2 := @above_bd (mem 36 f) (mem 37 f) (mem 38 f) x p (by omega) (by omega)
    refine jblk hF [(.aload_n 0, 1), (.iload_n 1, 1), (.iload_n 2, 1)] (by decide +kernel) (pc' := 59) (lo' := [(0, (2, 35)), (1, (0, f)), (2, (0, x)), (3, (0, p)), (4, (0, half))]) (st' := [(0, x), (0, f), (2, 35), (1, aboveV (mem 36 f) (mem 37 f) (mem 38 f) x p)]) rfl ?_
    refine jcallV hF (c_X12_below hG hS hR f x (by omega) (by omega)) MW_X12_below 13 (by decide) (by exact hS.k35) wd_1788 wd_1790 wd_p52 (by decide +kernel) [(1, aboveV (mem 36 f) (mem 37 f) (mem 38 f) x p)] rfl rfl (by decide) (Nat.le_of_ble_eq_true rfl) (by decide) (kV ?_)
    have hf_3 := @below_bd (mem 36 f) (mem 38 f) x (by omega) (by omega)
    refine jblk hF [(.iload 4, 2)] (by decide +kernel) (pc' := 64) (lo' := [(0, (2, 35)), (1, (0, f)), (2, (0, x)), (3, (0, p)), (4, (0, half))]) (st' := [(0, half), (1, belowV (mem 36 f) (mem 38 f) x), (1, aboveV (mem 36 f) (mem 37 f) (mem 38 f) x p)]) rfl ?_
    refine jcallS hF (c_X12_nearestBy hG (aboveV (mem 36 f) (mem 37 f) (mem 38 f) x p) (belowV (mem 36 f) (mem 38 f) x) half (by omega) (by omega) (by omega)) MW_X12_nearestBy wd_1806 wd_1807 (by decide +kernel) [] rfl rfl (by decide) (Nat.le_of_ble_eq_true rfl) (by decide) (kV ?_)
    refine jlret hF hr (by decide +kernel) ?_
    exact lV (by first | (rw [near_un _ _ _ _ _ _ (by omega)]; first | exact (if_pos (by omega)).symm | exact (if_neg (by omega)).symm) | (unfold nearV; rw [if_neg (by omega)]))
  · refine jblk hF [(.aload_n 0, 1), (.iload_n 1, 1), (.iload_n 2, 1), (.iload_n 3, 1)] (by decide +kernel) (pc' := 13) (lo' := [(0, (2, 35)), (1, (0, f)), (2, (0, x)), (3, (0, p)), (4, (0, half))]) (st' := [(0, p), (0, x), (0, f), (2, 35)]) rfl ?_
    refine jcallV hF (c_X12_under hG hS hR f x p (by omega) (by omega)) MW_X12_under 13 (by decide) (by exact hS.k35) wd_1770 wd_1772 wd_p50 (by decide +kernel) [] rfl rfl (by decide) (Nat.le_of_ble_eq_true rfl) (by decide) (kV ?_)
    have hf_4 := @under_bd (mem 37 f) (mem 38 f) x p (by omega) (by omega)
    refine jblk hF [(.lstore 5, 2), (.lload 5, 2)] (by decide +kernel) (pc' := 20) (lo' := [(5, (1, underV (mem 37 f) (mem 38 f) x p)), (0, (2, 35)), (1, (0, f)), (2, (0, x)), (3, (0, p)), (4, (0, half))]) (st' := [(1, underV (mem 37 f) (mem 38 f) x p)]) rfl ?_
    refine jcallS hF (c_X12_root hG (underV (mem 37 f) (mem 38 f) x p) (by omega)) MW_X12_root wd_1778 wd_1779 (by decide +kernel) [] rfl rfl (by decide) (Nat.le_of_ble_eq_true rfl) (by decide) (kV ?_)
    have hf_5 := @isq_bd (underV (mem 37 f) (mem 38 f) x p) (by omega)
    refine jblk hF [(.lstore 7, 2), (.lload 5, 2), (.lload 7, 2), (.lload 7, 2)] (by decide +kernel) (pc' := 31) (lo' := [(7, (1, isq (underV (mem 37 f) (mem 38 f) x p))), (5, (1, underV (mem 37 f) (mem 38 f) x p)), (0, (2, 35)), (1, (0, f)), (2, (0, x)), (3, (0, p)), (4, (0, half))]) (st' := [(1, isq (underV (mem 37 f) (mem 38 f) x p)), (1, isq (underV (mem 37 f) (mem 38 f) x p)), (1, underV (mem 37 f) (mem 38 f) x p)]) rfl ?_
    have hi := isq_le (v := underV (mem 37 f) (mem 38 f) x p) (by omega)
    have hi0 := Int.mul_nonneg (isq_nonneg (underV (mem 37 f) (mem 38 f) x p)) (isq_nonneg (underV (mem 37 f) (mem 38 f) x p))
    refine jblk hF [(.lmul, 1), (.lload 7, 2), (.ladd, 1)] (by decide +kernel) (pc' := 35) (lo' := [(7, (1, isq (underV (mem 37 f) (mem 38 f) x p))), (5, (1, underV (mem 37 f) (mem 38 f) x p)), (0, (2, 35)), (1, (0, f)), (2, (0, x)), (3, (0, p)), (4, (0, half))]) (st' := [(1, ((isq (underV (mem 37 f) (mem 38 f) x p)) * (isq (underV (mem 37 f) (mem 38 f) x p))) + (isq (underV (mem 37 f) (mem 38 f) x p))), (1, underV (mem 37 f) (mem 38 f) x p)]) rfl ?_
    refine jlcmp_le hF (off := 10) 46 (by decide +kernel) (by decide +kernel) (by decide) (by omega) (by omega) (fun h_6 => ?_) (fun h_6 => ?_)
    · refine jblk hF [(.lload 7, 2)] (by decide +kernel) (pc' := 48) (lo' := [(7, (1, isq (underV (mem 37 f) (mem 38 f) x p))), (5, (1, underV (mem 37 f) (mem 38 f) x p)), (0, (2, 35)), (1, (0, f)), (2, (0, x)), (3, (0, p)), (4, (0, half))]) (st' := [(1, isq (underV (mem 37 f) (mem 38 f) x p))]) rfl ?_
      refine jlret hF hr (by decide +kernel) ?_
      exact lV (by first | (rw [near_un _ _ _ _ _ _ (by omega)]; first | exact (if_pos (by omega)).symm | exact (if_neg (by omega)).symm) | (unfold nearV; rw [if_neg (by omega)]))
    · refine jblk hF [(.lload 7, 2)] (by decide +kernel) (pc' := 41) (lo' := [(7, (1, isq (underV (mem 37 f) (mem 38 f) x p))), (5, (1, underV (mem 37 f) (mem 38 f) x p)), (0, (2, 35)), (1, (0, f)), (2, (0, x)), (3, (0, p)), (4, (0, half))]) (st' := [(1, isq (underV (mem 37 f) (mem 38 f) x p))]) rfl ?_
      refine jlconst hF (n := 1) 1 rfl (by decide +kernel) ?_
      refine jblk hF [(.ladd, 1)] (by decide +kernel) (pc' := 43) (lo' := [(7, (1, isq (underV (mem 37 f) (mem 38 f) x p))), (5, (1, underV (mem 37 f) (mem 38 f) x p)), (0, (2, 35)), (1, (0, f)), (2, (0, x)), (3, (0, p)), (4, (0, half))]) (st' := [(1, (isq (underV (mem 37 f) (mem 38 f) x p)) + 1)]) rfl ?_
      refine jgoto hF (off := 5) 48 (by decide +kernel) (by decide) ?_
      refine jlret hF hr (by decide +kernel) ?_
      exact lV (by first | (rw [near_un _ _ _ _ _ _ (by omega)]; first | exact (if_pos (by omega)).symm | exact (if_neg (by omega)).symm) | (unfold nearV; rw [if_neg (by omega)]))
set_option maxHeartbeats 4000000 in
set_option maxRecDepth 100000 in
theorem c_X12_isFunction {l : Launch} {g : GP} (hG : GH g) {kd : Int → Nat} {ln : Int → Int} {mem : Int → Int → Int} {sz : Nat} (hS : SK kd ln) (hR : SR mem) (f x p : Int) (h_f : InI f) (h_x : InI x) (h_p : InI p) (hN : 0 ≤ mem 35 6 ∧ mem 35 6 ≤ 10) : MT l g yX12_isFunction cX12_isFunction 4 (some .boolean) 1 0 0 [(2, 35), (0, f), (0, x), (0, p)] kd ln mem sz (pB (fnA mem f x p) kd ln mem sz) := by
  refine MT_of hG (by decide +kernel) (Nat.le_of_ble_eq_true rfl) (fun z hF hr hn => ?_)
  refine jblk hF [(.iload_n 1, 1), (.iconst 0, 1), (.aload_n 0, 1)] (by decide +kernel) (pc' := 3) (lo' := [(0, (2, 35)), (1, (0, f)), (2, (0, x)), (3, (0, p))]) (st' := [(2, 35), (0, 0), (0, f)]) rfl ?_
  refine jget hF 13 6 0 6 rfl (by decide) (by decide) rfl wd_1469 (by decide +kernel) (by exact hS.k35) ?_
  refine jblk hF [(.iconst 1, 1), (.isub, 1)] (by decide +kernel) (pc' := 8) (lo' := [(0, (2, 35)), (1, (0, f)), (2, (0, x)), (3, (0, p))]) (st' := [(0, (mem 35 6) - 1), (0, 0), (0, f)]) rfl ?_
  refine jcallS hF (c_X12_in hG f 0 ((mem 35 6) - 1) (by omega) (by decide) (by omega)) MW_X12_in wd_1743 wd_1744 (by decide +kernel) [] rfl rfl (by decide) (Nat.le_of_ble_eq_true rfl) (by decide) (kB (fun h_1 => ?_) (fun h_1 => ?_))
  · refine jif_eq hF (off := 28) 39 (by decide +kernel) (by decide) (by decide) (fun h => absurd h (by decide)) (fun _ => ?_)
    refine jblk hF [(.iload_n 2, 1), (.iconst 1, 1), (.sipush 9999, 3)] (by decide +kernel) (pc' := 19) (lo' := [(0, (2, 35)), (1, (0, f)), (2, (0, x)), (3, (0, p))]) (st' := [(0, 9999), (0, 1), (0, x)]) rfl ?_
    refine jcallS hF (c_X12_in hG x 1 9999 (by omega) (by decide) (by decide)) MW_X12_in wd_1743 wd_1744 (by decide +kernel) [] rfl rfl (by decide) (Nat.le_of_ble_eq_true rfl) (by decide) (kB (fun h_3 => ?_) (fun h_3 => ?_))
    · refine jif_eq hF (off := 17) 39 (by decide +kernel) (by decide) (by decide) (fun h => absurd h (by decide)) (fun _ => ?_)
      refine jblk hF [(.iload_n 3, 1), (.iconst 0, 1), (.bipush 6, 2)] (by decide +kernel) (pc' := 29) (lo' := [(0, (2, 35)), (1, (0, f)), (2, (0, x)), (3, (0, p))]) (st' := [(0, 6), (0, 0), (0, p)]) rfl ?_
      refine jcallS hF (c_X12_in hG p 0 6 (by omega) (by decide) (by decide)) MW_X12_in wd_1743 wd_1744 (by decide +kernel) [] rfl rfl (by decide) (Nat.le_of_ble_eq_true rfl) (by decide) (kB (fun h_5 => ?_) (fun h_5 => ?_))
      · refine jif_eq hF (off := 7) 39 (by decide +kernel) (by decide) (by decide) (fun h => absurd h (by decide)) (fun _ => ?_)
        refine jblk hF [(.iconst 1, 1)] (by decide +kernel) (pc' := 36) (lo' := [(0, (2, 35)), (1, (0, f)), (2, (0, x)), (3, (0, p))]) (st' := [(0, 1)]) rfl ?_
        refine jgoto hF (off := 4) 40 (by decide +kernel) (by decide) ?_
        refine jzret hF hr (by omega) (by decide +kernel) ?_
        exact lB1 (by omega)
      · refine jif_eq hF (off := 7) 39 (by decide +kernel) (by decide) (by decide) (fun _ => ?_) (fun h => absurd h (by decide))
        refine jblk hF [(.iconst 0, 1)] (by decide +kernel) (pc' := 40) (lo' := [(0, (2, 35)), (1, (0, f)), (2, (0, x)), (3, (0, p))]) (st' := [(0, 0)]) rfl ?_
        refine jzret hF hr (by omega) (by decide +kernel) ?_
        exact lB0 (by omega)
    · refine jif_eq hF (off := 17) 39 (by decide +kernel) (by decide) (by decide) (fun _ => ?_) (fun h => absurd h (by decide))
      refine jblk hF [(.iconst 0, 1)] (by decide +kernel) (pc' := 40) (lo' := [(0, (2, 35)), (1, (0, f)), (2, (0, x)), (3, (0, p))]) (st' := [(0, 0)]) rfl ?_
      refine jzret hF hr (by omega) (by decide +kernel) ?_
      exact lB0 (by omega)
  · refine jif_eq hF (off := 28) 39 (by decide +kernel) (by decide) (by decide) (fun _ => ?_) (fun h => absurd h (by decide))
    refine jblk hF [(.iconst 0, 1)] (by decide +kernel) (pc' := 40) (lo' := [(0, (2, 35)), (1, (0, f)), (2, (0, x)), (3, (0, p))]) (st' := [(0, 0)]) rfl ?_
    refine jzret hF hr (by omega) (by decide +kernel) ?_
    exact lB0 (by omega)
set_option maxHeartbeats 4000000 in
set_option maxRecDepth 100000 in
theorem c_X12_exact {l : Launch} {g : GP} (hG : GH g) {kd : Int → Nat} {ln : Int → Int} {mem : Int → Int → Int} {sz : Nat} (hS : SK kd ln) (hR : SR mem) (f x p : Int) (h_f : InI f) (h_x : InI x) (h_p : InI p) (hN : FNS mem) : MT l g yX12_exact cX12_exact 4 (some .long) 3 0 0 [(2, 35), (0, f), (0, x), (0, p)] kd ln mem sz (pV (1, exactA mem f x p) kd ln mem sz) := by
  refine MT_of hG (by decide +kernel) (Nat.le_of_ble_eq_true rfl) (fun z hF hr hn => ?_)
  refine jblk hF [(.aload_n 0, 1), (.iload_n 1, 1), (.iload_n 2, 1), (.iload_n 3, 1)] (by decide +kernel) (pc' := 4) (lo' := [(0, (2, 35)), (1, (0, f)), (2, (0, x)), (3, (0, p))]) (st' := [(0, p), (0, x), (0, f), (2, 35)]) rfl ?_
  refine jcallV hF (c_X12_isFunction hG hS hR f x p (by omega) (by omega) (by omega) (by omega)) MW_X12_isFunction 13 (by decide) (by exact hS.k35) wd_1762 wd_1764 wd_p48 (by decide +kernel) [] rfl rfl (by decide) (Nat.le_of_ble_eq_true rfl) (by decide) (kB (fun h_1 => ?_) (fun h_1 => ?_))
  · refine jif_eq hF (off := 13) 20 (by decide +kernel) (by decide) (by decide) (fun h => absurd h (by decide)) (fun _ => ?_)
    have hf := hN.2.2 f (by omega) (by omega)
    refine jblk hF [(.aload_n 0, 1), (.iload_n 1, 1), (.iload_n 2, 1), (.iload_n 3, 1)] (by decide +kernel) (pc' := 14) (lo' := [(0, (2, 35)), (1, (0, f)), (2, (0, x)), (3, (0, p))]) (st' := [(0, p), (0, x), (0, f), (2, 35)]) rfl ?_
    refine jcallV hF (c_X12_exactOf hG hS hR f x p (by omega) (by omega)) MW_X12_exactOf 13 (by decide) (by exact hS.k35) wd_1766 wd_1768 wd_p49 (by decide +kernel) [] rfl rfl (by decide) (Nat.le_of_ble_eq_true rfl) (by decide) (kV ?_)
    have hf_3 := @exact_bd (mem 36 f) (mem 37 f) (mem 38 f) x p (by omega) (by omega)
    refine jgoto hF (off := 6) 23 (by decide +kernel) (by decide) ?_
    refine jlret hF hr (by decide +kernel) ?_
    exact lV (by first | exact (if_pos (by omega)).symm | exact (if_neg (by omega)).symm)
  · refine jif_eq hF (off := 13) 20 (by decide +kernel) (by decide) (by decide) (fun _ => ?_) (fun h => absurd h (by decide))
    refine jldc2 hF (-1) (cst_l wd_1793 (by decide)) (by decide +kernel) ?_
    refine jlret hF hr (by decide +kernel) ?_
    exact lV (by first | exact (if_pos (by omega)).symm | exact (if_neg (by omega)).symm)
set_option maxHeartbeats 4000000 in
set_option maxRecDepth 100000 in
theorem c_X12_whole {l : Launch} {g : GP} (hG : GH g) {kd : Int → Nat} {ln : Int → Int} {mem : Int → Int → Int} {sz : Nat} (hS : SK kd ln) (hR : SR mem) (f x p : Int) (h_f : InI f) (h_x : InI x) (h_p : InI p) (hN : FNS mem) : MT l g yX12_whole cX12_whole 6 (some .int) 3 0 0 [(2, 35), (0, f), (0, x), (0, p)] kd ln mem sz (pR 0 (fun v => (fnA mem f x p → (v = 1 ∧ wholeB mem f x p) ∨ (v = 0 ∧ ¬ wholeB mem f x p)) ∧ (¬ fnA mem f x p → v = -1)) kd ln mem sz) := by
  refine MT_of hG (by decide +kernel) (Nat.le_of_ble_eq_true rfl) (fun z hF hr hn => ?_)
  refine jblk hF [(.aload_n 0, 1), (.iload_n 1, 1), (.iload_n 2, 1), (.iload_n 3, 1)] (by decide +kernel) (pc' := 4) (lo' := [(0, (2, 35)), (1, (0, f)), (2, (0, x)), (3, (0, p))]) (st' := [(0, p), (0, x), (0, f), (2, 35)]) rfl ?_
  refine jcallV hF (c_X12_isFunction hG hS hR f x p (by omega) (by omega) (by omega) (by omega)) MW_X12_isFunction 13 (by decide) (by exact hS.k35) wd_1762 wd_1764 wd_p48 (by decide +kernel) [] rfl rfl (by decide) (Nat.le_of_ble_eq_true rfl) (by decide) (kB (fun h_1 => ?_) (fun h_1 => ?_))
  · refine jif_ne hF (off := 5) 12 (by decide +kernel) (by decide) (by decide) (fun _ => ?_) (fun h => absurd h (by decide))
    have hf := hN.2.2 f (by omega) (by omega)
    refine jblk hF [(.aload_n 0, 1), (.iload_n 1, 1), (.iload_n 2, 1), (.iload_n 3, 1)] (by decide +kernel) (pc' := 16) (lo' := [(0, (2, 35)), (1, (0, f)), (2, (0, x)), (3, (0, p))]) (st' := [(0, p), (0, x), (0, f), (2, 35)]) rfl ?_
    refine jcallV hF (c_X12_exactOf hG hS hR f x p (by omega) (by omega)) MW_X12_exactOf 13 (by decide) (by exact hS.k35) wd_1766 wd_1768 wd_p49 (by decide +kernel) [] rfl rfl (by decide) (Nat.le_of_ble_eq_true rfl) (by decide) (kV ?_)
    have hf_3 := @exact_bd (mem 36 f) (mem 37 f) (mem 38 f) x p (by omega) (by omega)
    refine jblk hF [(.lstore 4, 2), (.aload_n 0, 1)] (by decide +kernel) (pc' := 22) (lo' := [(4, (1, exactV (mem 36 f) (mem 37 f) (mem 38 f) x p)), (0, (2, 35)), (1, (0, f)), (2, (0, x)), (3, (0, p))]) (st' := [(2, 35)]) rfl ?_
    refine jget hF 13 3 2 3 rfl (by decide) (by decide) rfl wd_1466 (by decide +kernel) (by exact hS.k35) ?_
    rw [SR.r3 hR]
    refine jblk hF [(.iload_n 1, 1)] (by decide +kernel) (pc' := 26) (lo' := [(4, (1, exactV (mem 36 f) (mem 37 f) (mem 38 f) x p)), (0, (2, 35)), (1, (0, f)), (2, (0, x)), (3, (0, p))]) (st' := [(0, f), (2, 36)]) rfl ?_
    refine jiald hF (by decide +kernel) (by exact hS.k36) (by omega) (by have := hS.l36; omega) ?_
    refine jif_ne hF (off := 22) 49 (by decide +kernel) (by decide) (by omega) (fun h_4 => ?_) (fun h_4 => ?_)
    · refine jblk hF [(.lload 4, 2), (.aload_n 0, 1), (.iload_n 1, 1), (.iload_n 2, 1)] (by decide +kernel) (pc' := 54) (lo' := [(4, (1, exactV (mem 36 f) (mem 37 f) (mem 38 f) x p)), (0, (2, 35)), (1, (0, f)), (2, (0, x)), (3, (0, p))]) (st' := [(0, x), (0, f), (2, 35), (1, exactV (mem 36 f) (mem 37 f) (mem 38 f) x p)]) rfl ?_
      refine jcallV hF (c_X12_below hG hS hR f x (by omega) (by omega)) MW_X12_below 13 (by decide) (by exact hS.k35) wd_1788 wd_1790 wd_p52 (by decide +kernel) [(1, exactV (mem 36 f) (mem 37 f) (mem 38 f) x p)] rfl rfl (by decide) (Nat.le_of_ble_eq_true rfl) (by decide) (kV ?_)
      have hf_5 := @below_bd (mem 36 f) (mem 38 f) x (by omega) (by omega)
      refine jblk hF [(.lmul, 1)] (by decide +kernel) (pc' := 58) (lo' := [(4, (1, exactV (mem 36 f) (mem 37 f) (mem 38 f) x p)), (0, (2, 35)), (1, (0, f)), (2, (0, x)), (3, (0, p))]) (st' := [(1, (exactV (mem 36 f) (mem 37 f) (mem 38 f) x p) * (belowV (mem 36 f) (mem 38 f) x))]) rfl ?_
      have hmb := exact_mul_bd (mem 36 f) (mem 37 f) (mem 38 f) x p (by omega) (by omega) (by omega)
      refine jblk hF [(.aload_n 0, 1), (.iload_n 1, 1), (.iload_n 2, 1), (.iload_n 3, 1)] (by decide +kernel) (pc' := 62) (lo' := [(4, (1, exactV (mem 36 f) (mem 37 f) (mem 38 f) x p)), (0, (2, 35)), (1, (0, f)), (2, (0, x)), (3, (0, p))]) (st' := [(0, p), (0, x), (0, f), (2, 35), (1, (exactV (mem 36 f) (mem 37 f) (mem 38 f) x p) * (belowV (mem 36 f) (mem 38 f) x))]) rfl ?_
      refine jcallV hF (c_X12_above hG hS hR f x p (by omega) (by omega)) MW_X12_above 13 (by decide) (by exact hS.k35) wd_1783 wd_1785 wd_p51 (by decide +kernel) [(1, (exactV (mem 36 f) (mem 37 f) (mem 38 f) x p) * (belowV (mem 36 f) (mem 38 f) x))] rfl rfl (by decide) (Nat.le_of_ble_eq_true rfl) (by decide) (kV ?_)
      have hf_6 := @above_bd (mem 36 f) (mem 37 f) (mem 38 f) x p (by omega) (by omega)
      refine jlcmp_ne hF (off := 7) 73 (by decide +kernel) (by decide +kernel) (by decide) (by omega) (by omega) (fun h_7 => ?_) (fun h_7 => ?_)
      · refine jblk hF [(.iconst 0, 1)] (by decide +kernel) (pc' := 74) (lo' := [(4, (1, exactV (mem 36 f) (mem 37 f) (mem 38 f) x p)), (0, (2, 35)), (1, (0, f)), (2, (0, x)), (3, (0, p))]) (st' := [(0, 0)]) rfl ?_
        refine jiret hF hr (by decide +kernel) ?_
        exact lR (by first | exact ⟨fun h => absurd h (by omega), fun _ => rfl⟩ | exact ⟨fun _ => Or.inl ⟨rfl, by unfold wholeB; first | (rw [if_pos (by omega)]; omega) | (rw [if_neg (by omega)]; omega)⟩, fun h => absurd (by omega) h⟩ | exact ⟨fun _ => Or.inr ⟨rfl, by unfold wholeB; first | (rw [if_pos (by omega)]; omega) | (rw [if_neg (by omega)]; omega)⟩, fun h => absurd (by omega) h⟩)
      · refine jblk hF [(.iconst 1, 1)] (by decide +kernel) (pc' := 70) (lo' := [(4, (1, exactV (mem 36 f) (mem 37 f) (mem 38 f) x p)), (0, (2, 35)), (1, (0, f)), (2, (0, x)), (3, (0, p))]) (st' := [(0, 1)]) rfl ?_
        refine jgoto hF (off := 4) 74 (by decide +kernel) (by decide) ?_
        refine jiret hF hr (by decide +kernel) ?_
        exact lR (by first | exact ⟨fun h => absurd h (by omega), fun _ => rfl⟩ | exact ⟨fun _ => Or.inl ⟨rfl, by unfold wholeB; first | (rw [if_pos (by omega)]; omega) | (rw [if_neg (by omega)]; omega)⟩, fun h => absurd (by omega) h⟩ | exact ⟨fun _ => Or.inr ⟨rfl, by unfold wholeB; first | (rw [if_pos (by omega)]; omega) | (rw [if_neg (by omega)]; omega)⟩, fun h => absurd (by omega) h⟩)
    · have hex : exactV (mem 36 f) (mem 37 f) (mem 38 f) x p = isq (underV (mem 37 f) (mem 38 f) x p) := if_pos (by omega)
      rw [hex]
      have hi := isq_le (v := underV (mem 37 f) (mem 38 f) x p) (by have := @under_bd (mem 37 f) (mem 38 f) x p (by omega) (by omega); omega)
      have hi0 := Int.mul_nonneg (isq_nonneg (underV (mem 37 f) (mem 38 f) x p)) (isq_nonneg (underV (mem 37 f) (mem 38 f) x p))
      refine jblk hF [(.lload 4, 2), (.lload 4, 2), (.lmul, 1), (.aload_n 0, 1), (.iload_n 1, 1), (.iload_n 2, 1), (.iload_n 3, 1)] (by decide +kernel) (pc' := 39) (lo' := [(4, (1, isq (underV (mem 37 f) (mem 38 f) x p))), (0, (2, 35)), (1, (0, f)), (2, (0, x)), (3, (0, p))]) (st' := [(0, p), (0, x), (0, f), (2, 35), (1, (isq (underV (mem 37 f) (mem 38 f) x p)) * (isq (underV (mem 37 f) (mem 38 f) x p)))]) rfl ?_
      refine jcallV hF (c_X12_under hG hS hR f x p (by omega) (by omega)) MW_X12_under 13 (by decide) (by exact hS.k35) wd_1770 wd_1772 wd_p50 (by decide +kernel) [(1, (isq (underV (mem 37 f) (mem 38 f) x p)) * (isq (underV (mem 37 f) (mem 38 f) x p)))] rfl rfl (by decide) (Nat.le_of_ble_eq_true rfl) (by decide) (kV ?_)
      have hf_8 := @under_bd (mem 37 f) (mem 38 f) x p (by omega) (by omega)
      refine jlcmp_ne hF (off := 30) 73 (by decide +kernel) (by decide +kernel) (by decide) (by omega) (by omega) (fun h_9 => ?_) (fun h_9 => ?_)
      · refine jblk hF [(.iconst 0, 1)] (by decide +kernel) (pc' := 74) (lo' := [(4, (1, isq (underV (mem 37 f) (mem 38 f) x p))), (0, (2, 35)), (1, (0, f)), (2, (0, x)), (3, (0, p))]) (st' := [(0, 0)]) rfl ?_
        refine jiret hF hr (by decide +kernel) ?_
        exact lR (by first | exact ⟨fun h => absurd h (by omega), fun _ => rfl⟩ | exact ⟨fun _ => Or.inl ⟨rfl, by unfold wholeB; first | (rw [if_pos (by omega)]; omega) | (rw [if_neg (by omega)]; omega)⟩, fun h => absurd (by omega) h⟩ | exact ⟨fun _ => Or.inr ⟨rfl, by unfold wholeB; first | (rw [if_pos (by omega)]; omega) | (rw [if_neg (by omega)]; omega)⟩, fun h => absurd (by omega) h⟩)
      · refine jgoto hF (off := 23) 69 (by decide +kernel) (by decide) ?_
        refine jblk hF [(.iconst 1, 1)] (by decide +kernel) (pc' := 70) (lo' := [(4, (1, isq (underV (mem 37 f) (mem 38 f) x p))), (0, (2, 35)), (1, (0, f)), (2, (0, x)), (3, (0, p))]) (st' := [(0, 1)]) rfl ?_
        refine jgoto hF (off := 4) 74 (by decide +kernel) (by decide) ?_
        refine jiret hF hr (by decide +kernel) ?_
        exact lR (by first | exact ⟨fun h => absurd h (by omega), fun _ => rfl⟩ | exact ⟨fun _ => Or.inl ⟨rfl, by unfold wholeB; first | (rw [if_pos (by omega)]; omega) | (rw [if_neg (by omega)]; omega)⟩, fun h => absurd (by omega) h⟩ | exact ⟨fun _ => Or.inr ⟨rfl, by unfold wholeB; first | (rw [if_pos (by omega)]; omega) | (rw [if_neg (by omega)]; omega)⟩, fun h => absurd (by omega) h⟩)
  · refine jif_ne hF (off := 5) 12 (by decide +kernel) (by decide) (by decide) (fun h => absurd h (by decide)) (fun _ => ?_)
    refine jblk hF [(.iconst (-1), 1)] (by decide +kernel) (pc' := 11) (lo' := [(0, (2, 35)), (1, (0, f)), (2, (0, x)), (3, (0, p))]) (st' := [(0, (-1))]) rfl ?_
    refine jiret hF hr (by decide +kernel) ?_
    exact lR (by first | exact ⟨fun h => absurd h (by omega), fun _ => rfl⟩ | exact ⟨fun _ => Or.inl ⟨rfl, by unfold wholeB; first | (rw [if_pos (by omega)]; omega) | (rw [if_neg (by omega)]; omega)⟩, fun h => absurd (by omega) h⟩ | exact ⟨fun _ => Or.inr ⟨rfl, by unfold wholeB; first | (rw [if_pos (by omega)]; omega) | (rw [if_neg (by omega)]; omega)⟩, fun h => absurd (by omega) h⟩)
set_option maxHeartbeats 4000000 in
set_option maxRecDepth 100000 in
theorem c_X12_nearest {l : Launch} {g : GP} (hG : GH g) {kd : Int → Nat} {ln : Int → Int} {mem : Int → Int → Int} {sz : Nat} (hS : SK kd ln) (hR : SR mem) (f x p : Int) (h_f : InI f) (h_x : InI x) (h_p : InI p) (hN : FNS mem) : MT l g yX12_nearest cX12_nearest 4 (some .long) 3 0 0 [(2, 35), (0, f), (0, x), (0, p)] kd ln mem sz (pV (1, nearestA mem f x p) kd ln mem sz) := by
  refine MT_of hG (by decide +kernel) (Nat.le_of_ble_eq_true rfl) (fun z hF hr hn => ?_)
  refine jblk hF [(.aload_n 0, 1), (.iload_n 1, 1), (.iload_n 2, 1), (.iload_n 3, 1)] (by decide +kernel) (pc' := 4) (lo' := [(0, (2, 35)), (1, (0, f)), (2, (0, x)), (3, (0, p))]) (st' := [(0, p), (0, x), (0, f), (2, 35)]) rfl ?_
  refine jcallV hF (c_X12_isFunction hG hS hR f x p (by omega) (by omega) (by omega) (by omega)) MW_X12_isFunction 13 (by decide) (by exact hS.k35) wd_1762 wd_1764 wd_p48 (by decide +kernel) [] rfl rfl (by decide) (Nat.le_of_ble_eq_true rfl) (by decide) (kB (fun h_1 => ?_) (fun h_1 => ?_))
  · refine jif_eq hF (off := 14) 21 (by decide +kernel) (by decide) (by decide) (fun h => absurd h (by decide)) (fun _ => ?_)
    have hf := hN.2.2 f (by omega) (by omega)
    refine jblk hF [(.aload_n 0, 1), (.iload_n 1, 1), (.iload_n 2, 1), (.iload_n 3, 1), (.iconst 0, 1)] (by decide +kernel) (pc' := 15) (lo' := [(0, (2, 35)), (1, (0, f)), (2, (0, x)), (3, (0, p))]) (st' := [(0, 0), (0, p), (0, x), (0, f), (2, 35)]) rfl ?_
    refine jcallV hF (c_X12_nearestOf hG hS hR f x p 0 (by omega) (by omega) (by omega)) MW_X12_nearestOf 13 (by decide) (by exact hS.k35) wd_1802 wd_1804 wd_p53 (by decide +kernel) [] rfl rfl (by decide) (Nat.le_of_ble_eq_true rfl) (by decide) (kV ?_)
    have hf_3 := @near_bd (mem 36 f) (mem 37 f) (mem 38 f) x p 0 (by omega) (by omega)
    refine jgoto hF (off := 6) 24 (by decide +kernel) (by decide) ?_
    refine jlret hF hr (by decide +kernel) ?_
    exact lV (by first | exact (if_pos (by omega)).symm | exact (if_neg (by omega)).symm)
  · refine jif_eq hF (off := 14) 21 (by decide +kernel) (by decide) (by decide) (fun _ => ?_) (fun h => absurd h (by decide))
    refine jldc2 hF (-1) (cst_l wd_1793 (by decide)) (by decide +kernel) ?_
    refine jlret hF hr (by decide +kernel) ?_
    exact lV (by first | exact (if_pos (by omega)).symm | exact (if_neg (by omega)).symm)
set_option maxHeartbeats 4000000 in
set_option maxRecDepth 100000 in
theorem c_X12_function {l : Launch} {g : GP} (hG : GH g) {kd : Int → Nat} {ln : Int → Int} {mem : Int → Int → Int} {sz : Nat} (hS : SK kd ln) (hR : SR mem) (s a b : Int) (h_s : InI s) (h_a : InI a) (h_b : InI b) (hN : 0 ≤ mem 35 6 ∧ mem 35 6 ≤ 10) : MT l g yX12_function cX12_function 4 (some .int) 1 0 0 [(2, 35), (0, s), (0, a), (0, b)] kd ln mem sz (pMR 0 (fun v mem' => SR mem' ∧ ((funC mem s a b → v = mem 35 6 ∧ mem' = funM mem s a b) ∧ (¬ funC mem s a b → v = -1 ∧ mem' = mem))) kd ln sz) := by
  refine MT_of hG (by decide +kernel) (Nat.le_of_ble_eq_true rfl) (fun z hF hr hn => ?_)
  refine jblk hF [(.iload_n 1, 1), (.iconst 0, 1), (.iconst 2, 1)] (by decide +kernel) (pc' := 3) (lo' := [(0, (2, 35)), (1, (0, s)), (2, (0, a)), (3, (0, b))]) (st' := [(0, 2), (0, 0), (0, s)]) rfl ?_
  refine jcallS hF (c_X12_in hG s 0 2 (by omega) (by decide) (by decide)) MW_X12_in wd_1743 wd_1744 (by decide +kernel) [] rfl rfl (by decide) (Nat.le_of_ble_eq_true rfl) (by decide) (kB (fun h_1 => ?_) (fun h_1 => ?_))
  · refine jif_eq hF (off := 32) 38 (by decide +kernel) (by decide) (by decide) (fun h => absurd h (by decide)) (fun _ => ?_)
    refine jblk hF [(.iload_n 2, 1), (.iconst 1, 1), (.bipush 99, 2)] (by decide +kernel) (pc' := 13) (lo' := [(0, (2, 35)), (1, (0, s)), (2, (0, a)), (3, (0, b))]) (st' := [(0, 99), (0, 1), (0, a)]) rfl ?_
    refine jcallS hF (c_X12_in hG a 1 99 (by omega) (by decide) (by decide)) MW_X12_in wd_1743 wd_1744 (by decide +kernel) [] rfl rfl (by decide) (Nat.le_of_ble_eq_true rfl) (by decide) (kB (fun h_3 => ?_) (fun h_3 => ?_))
    · refine jif_eq hF (off := 22) 38 (by decide +kernel) (by decide) (by decide) (fun h => absurd h (by decide)) (fun _ => ?_)
      refine jblk hF [(.iload_n 3, 1), (.iconst 0, 1), (.bipush 99, 2)] (by decide +kernel) (pc' := 23) (lo' := [(0, (2, 35)), (1, (0, s)), (2, (0, a)), (3, (0, b))]) (st' := [(0, 99), (0, 0), (0, b)]) rfl ?_
      refine jcallS hF (c_X12_in hG b 0 99 (by omega) (by decide) (by decide)) MW_X12_in wd_1743 wd_1744 (by decide +kernel) [] rfl rfl (by decide) (Nat.le_of_ble_eq_true rfl) (by decide) (kB (fun h_5 => ?_) (fun h_5 => ?_))
      · refine jif_eq hF (off := 12) 38 (by decide +kernel) (by decide) (by decide) (fun h => absurd h (by decide)) (fun _ => ?_)
        refine jblk hF [(.aload_n 0, 1)] (by decide +kernel) (pc' := 30) (lo' := [(0, (2, 35)), (1, (0, s)), (2, (0, a)), (3, (0, b))]) (st' := [(2, 35)]) rfl ?_
        refine jget hF 13 6 0 6 rfl (by decide) (by decide) rfl wd_1469 (by decide +kernel) (by exact hS.k35) ?_
        refine jblk hF [(.bipush 10, 2)] (by decide +kernel) (pc' := 35) (lo' := [(0, (2, 35)), (1, (0, s)), (2, (0, a)), (3, (0, b))]) (st' := [(0, 10), (0, mem 35 6)]) rfl ?_
        refine jicmp_ne hF (off := 5) 40 (by decide +kernel) (by decide) (by omega) (by decide) (fun h_7 => ?_) (fun h_7 => ?_)
        · refine jblk hF [(.aload_n 0, 1)] (by decide +kernel) (pc' := 41) (lo' := [(0, (2, 35)), (1, (0, s)), (2, (0, a)), (3, (0, b))]) (st' := [(2, 35)]) rfl ?_
          refine jget hF 13 3 2 3 rfl (by decide) (by decide) rfl wd_1466 (by decide +kernel) (by exact hS.k35) ?_
          rw [SR.r3 hR]
          refine jblk hF [(.aload_n 0, 1)] (by decide +kernel) (pc' := 45) (lo' := [(0, (2, 35)), (1, (0, s)), (2, (0, a)), (3, (0, b))]) (st' := [(2, 35), (2, 36)]) rfl ?_
          refine jget hF 13 6 0 6 rfl (by decide) (by decide) rfl wd_1469 (by decide +kernel) (by exact hS.k35) ?_
          refine jblk hF [(.iload_n 1, 1)] (by decide +kernel) (pc' := 49) (lo' := [(0, (2, 35)), (1, (0, s)), (2, (0, a)), (3, (0, b))]) (st' := [(0, s), (0, mem 35 6), (2, 36)]) rfl ?_
          refine jiast hF (by decide +kernel) (by decide) (by exact hS.k36) (by omega) (by have := hS.l36; omega) ?_
          refine jblk hF [(.aload_n 0, 1)] (by decide +kernel) (pc' := 51) (lo' := [(0, (2, 35)), (1, (0, s)), (2, (0, a)), (3, (0, b))]) (st' := [(2, 35)]) rfl ?_
          refine jget hF 13 4 2 4 rfl (by decide) (by decide) rfl wd_1467 (by decide +kernel) (by exact hS.k35) ?_
          rw [SR.r4 (SR.s hR (Or.inl (by decide)))]
          refine jblk hF [(.aload_n 0, 1)] (by decide +kernel) (pc' := 55) (lo' := [(0, (2, 35)), (1, (0, s)), (2, (0, a)), (3, (0, b))]) (st' := [(2, 35), (2, 37)]) rfl ?_
          refine jget hF 13 6 0 6 rfl (by decide) (by decide) rfl wd_1469 (by decide +kernel) (by exact hS.k35) ?_
          rw [show (set2 mem 36 (mem 35 6) s) 35 6 = mem 35 6 from (s2_a (by decide))]
          refine jblk hF [(.iload_n 2, 1)] (by decide +kernel) (pc' := 59) (lo' := [(0, (2, 35)), (1, (0, s)), (2, (0, a)), (3, (0, b))]) (st' := [(0, a), (0, mem 35 6), (2, 37)]) rfl ?_
          refine jiast hF (by decide +kernel) (by decide) (by exact hS.k37) (by omega) (by have := hS.l37; omega) ?_
          refine jblk hF [(.aload_n 0, 1)] (by decide +kernel) (pc' := 61) (lo' := [(0, (2, 35)), (1, (0, s)), (2, (0, a)), (3, (0, b))]) (st' := [(2, 35)]) rfl ?_
          refine jget hF 13 5 2 5 rfl (by decide) (by decide) rfl wd_1468 (by decide +kernel) (by exact hS.k35) ?_
          rw [SR.r5 (SR.s (SR.s hR (Or.inl (by decide))) (Or.inl (by decide)))]
          refine jblk hF [(.aload_n 0, 1)] (by decide +kernel) (pc' := 65) (lo' := [(0, (2, 35)), (1, (0, s)), (2, (0, a)), (3, (0, b))]) (st' := [(2, 35), (2, 38)]) rfl ?_
          refine jget hF 13 6 0 6 rfl (by decide) (by decide) rfl wd_1469 (by decide +kernel) (by exact hS.k35) ?_
          rw [show (set2 (set2 mem 36 (mem 35 6) s) 37 (mem 35 6) a) 35 6 = mem 35 6 from ((s2_a (by decide)).trans (s2_a (by decide)))]
          refine jblk hF [(.iload_n 3, 1)] (by decide +kernel) (pc' := 69) (lo' := [(0, (2, 35)), (1, (0, s)), (2, (0, a)), (3, (0, b))]) (st' := [(0, b), (0, mem 35 6), (2, 38)]) rfl ?_
          refine jiast hF (by decide +kernel) (by decide) (by exact hS.k38) (by omega) (by have := hS.l38; omega) ?_
          refine jblk hF [(.aload_n 0, 1), (.dup, 1)] (by decide +kernel) (pc' := 72) (lo' := [(0, (2, 35)), (1, (0, s)), (2, (0, a)), (3, (0, b))]) (st' := [(2, 35), (2, 35)]) rfl ?_
          refine jget hF 13 6 0 6 rfl (by decide) (by decide) rfl wd_1469 (by decide +kernel) (by exact hS.k35) ?_
          rw [show (set2 (set2 (set2 mem 36 (mem 35 6) s) 37 (mem 35 6) a) 38 (mem 35 6) b) 35 6 = mem 35 6 from ((s2_a (by decide)).trans ((s2_a (by decide)).trans (s2_a (by decide))))]
          refine jblk hF [(.iconst 1, 1), (.iadd, 1)] (by decide +kernel) (pc' := 77) (lo' := [(0, (2, 35)), (1, (0, s)), (2, (0, a)), (3, (0, b))]) (st' := [(0, (mem 35 6) + 1), (2, 35)]) rfl ?_
          refine jput hF 13 6 0 6 rfl (by decide) (by decide) rfl wd_1469 (by decide +kernel) rfl (Or.inl rfl) (by exact hS.k35) (fun h => by cases h) ?_
          refine jblk hF [(.aload_n 0, 1)] (by decide +kernel) (pc' := 81) (lo' := [(0, (2, 35)), (1, (0, s)), (2, (0, a)), (3, (0, b))]) (st' := [(2, 35)]) rfl ?_
          refine jget hF 13 6 0 6 rfl (by decide) (by decide) rfl wd_1469 (by decide +kernel) (by exact hS.k35) ?_
          rw [show (set2 (set2 (set2 (set2 mem 36 (mem 35 6) s) 37 (mem 35 6) a) 38 (mem 35 6) b) 35 6 ((mem 35 6) + 1)) 35 6 = (mem 35 6) + 1 from s2_s]
          refine jblk hF [(.iconst 1, 1), (.isub, 1)] (by decide +kernel) (pc' := 86) (lo' := [(0, (2, 35)), (1, (0, s)), (2, (0, a)), (3, (0, b))]) (st' := [(0, ((mem 35 6) + 1) - 1)]) rfl ?_
          refine jiret hF hr (by decide +kernel) ?_
          exact lMR ⟨(SR.s (SR.s (SR.s (SR.s hR (Or.inl (by decide))) (Or.inl (by decide))) (Or.inl (by decide))) (Or.inr (by decide))), by first | exact ⟨fun h => absurd h (by omega), fun _ => ⟨rfl, rfl⟩⟩ | exact ⟨fun _ => ⟨by omega, rfl⟩, fun h => absurd (by omega) h⟩⟩
        · refine jblk hF [(.iconst (-1), 1)] (by decide +kernel) (pc' := 39) (lo' := [(0, (2, 35)), (1, (0, s)), (2, (0, a)), (3, (0, b))]) (st' := [(0, (-1))]) rfl ?_
          refine jiret hF hr (by decide +kernel) ?_
          exact lMR ⟨hR, by first | exact ⟨fun h => absurd h (by omega), fun _ => ⟨rfl, rfl⟩⟩ | exact ⟨fun _ => ⟨by omega, rfl⟩, fun h => absurd (by omega) h⟩⟩
      · refine jif_eq hF (off := 12) 38 (by decide +kernel) (by decide) (by decide) (fun _ => ?_) (fun h => absurd h (by decide))
        refine jblk hF [(.iconst (-1), 1)] (by decide +kernel) (pc' := 39) (lo' := [(0, (2, 35)), (1, (0, s)), (2, (0, a)), (3, (0, b))]) (st' := [(0, (-1))]) rfl ?_
        refine jiret hF hr (by decide +kernel) ?_
        exact lMR ⟨hR, by first | exact ⟨fun h => absurd h (by omega), fun _ => ⟨rfl, rfl⟩⟩ | exact ⟨fun _ => ⟨by omega, rfl⟩, fun h => absurd (by omega) h⟩⟩
    · refine jif_eq hF (off := 22) 38 (by decide +kernel) (by decide) (by decide) (fun _ => ?_) (fun h => absurd h (by decide))
      refine jblk hF [(.iconst (-1), 1)] (by decide +kernel) (pc' := 39) (lo' := [(0, (2, 35)), (1, (0, s)), (2, (0, a)), (3, (0, b))]) (st' := [(0, (-1))]) rfl ?_
      refine jiret hF hr (by decide +kernel) ?_
      exact lMR ⟨hR, by first | exact ⟨fun h => absurd h (by omega), fun _ => ⟨rfl, rfl⟩⟩ | exact ⟨fun _ => ⟨by omega, rfl⟩, fun h => absurd (by omega) h⟩⟩
  · refine jif_eq hF (off := 32) 38 (by decide +kernel) (by decide) (by decide) (fun _ => ?_) (fun h => absurd h (by decide))
    refine jblk hF [(.iconst (-1), 1)] (by decide +kernel) (pc' := 39) (lo' := [(0, (2, 35)), (1, (0, s)), (2, (0, a)), (3, (0, b))]) (st' := [(0, (-1))]) rfl ?_
    refine jiret hF hr (by decide +kernel) ?_
    exact lMR ⟨hR, by first | exact ⟨fun h => absurd h (by omega), fun _ => ⟨rfl, rfl⟩⟩ | exact ⟨fun _ => ⟨by omega, rfl⟩, fun h => absurd (by omega) h⟩⟩
set_option maxHeartbeats 4000000 in
set_option maxRecDepth 100000 in
theorem c_X12_byteOf {l : Launch} {g : GP} (hG : GH g) {kd : Int → Nat} {ln : Int → Int} {mem : Int → Int → Int} {sz : Nat} (a b c d e k : Int) (h_a : InI a) (h_b : InI b) (h_c : InI c) (h_d : InI d) (h_e : InI e) (hk : 0 ≤ k ∧ k < 20) : MT l g yX12_byteOf cX12_byteOf 7 (some .int) 0 0 0 [(0, a), (0, b), (0, c), (0, d), (0, e), (0, k)] kd ln mem sz (pV (0, byteK a b c d e k) kd ln mem sz) := by
  refine MT_of hG (by decide +kernel) (Nat.le_of_ble_eq_true rfl) (fun z hF hr hn => ?_)
  refine jblk hF [(.iload 5, 2), (.iconst 4, 1)] (by decide +kernel) (pc' := 3) (lo' := [(0, (0, a)), (1, (0, b)), (2, (0, c)), (3, (0, d)), (4, (0, e)), (5, (0, k))]) (st' := [(0, 4), (0, k)]) rfl ?_
  refine jicmp_ge hF (off := 7) 10 (by decide +kernel) (by decide) (by omega) (by decide) (fun h_1 => ?_) (fun h_1 => ?_)
  · refine jblk hF [(.iload 5, 2), (.bipush 8, 2)] (by decide +kernel) (pc' := 14) (lo' := [(0, (0, a)), (1, (0, b)), (2, (0, c)), (3, (0, d)), (4, (0, e)), (5, (0, k))]) (st' := [(0, 8), (0, k)]) rfl ?_
    refine jicmp_ge hF (off := 7) 21 (by decide +kernel) (by decide) (by omega) (by decide) (fun h_2 => ?_) (fun h_2 => ?_)
    · refine jblk hF [(.iload 5, 2), (.bipush 12, 2)] (by decide +kernel) (pc' := 25) (lo' := [(0, (0, a)), (1, (0, b)), (2, (0, c)), (3, (0, d)), (4, (0, e)), (5, (0, k))]) (st' := [(0, 12), (0, k)]) rfl ?_
      refine jicmp_ge hF (off := 7) 32 (by decide +kernel) (by decide) (by omega) (by decide) (fun h_3 => ?_) (fun h_3 => ?_)
      · refine jblk hF [(.iload 5, 2), (.bipush 16, 2)] (by decide +kernel) (pc' := 36) (lo' := [(0, (0, a)), (1, (0, b)), (2, (0, c)), (3, (0, d)), (4, (0, e)), (5, (0, k))]) (st' := [(0, 16), (0, k)]) rfl ?_
        refine jicmp_ge hF (off := 7) 43 (by decide +kernel) (by decide) (by omega) (by decide) (fun h_4 => ?_) (fun h_4 => ?_)
        · refine jblk hF [(.iload 4, 2), (.istore 6, 2), (.iload 6, 2), (.bipush 24, 2), (.bipush 8, 2), (.iload 5, 2), (.iconst 4, 1)] (by decide +kernel) (pc' := 56) (lo' := [(6, (0, e)), (0, (0, a)), (1, (0, b)), (2, (0, c)), (3, (0, d)), (4, (0, e)), (5, (0, k))]) (st' := [(0, 4), (0, k), (0, 8), (0, 24), (0, e)]) rfl ?_
          refine jiremN hF (by decide +kernel) (by omega) (by omega) ?_
          refine jblk hF [(.imul, 1), (.isub, 1), (.ishr, 1), (.sipush 255, 3), (.iand, 1)] (by decide +kernel) (pc' := 64) (lo' := [(6, (0, e)), (0, (0, a)), (1, (0, b)), (2, (0, c)), (3, (0, d)), (4, (0, e)), (5, (0, k))]) (st' := [(0, fand (fishr e (24 - (8 * (k % 4)))) 255)]) rfl ?_
          refine jiret hF hr (by decide +kernel) ?_
          exact lV (by first | (rw [byteK_0 (by omega)]; exact byte_row h_a (by omega)) | (rw [byteK_1 (by omega) (by omega)]; exact byte_row h_b (by omega)) | (rw [byteK_2 (by omega) (by omega) (by omega)]; exact byte_row h_c (by omega)) | (rw [byteK_3 (by omega) (by omega) (by omega) (by omega)]; exact byte_row h_d (by omega)) | (rw [byteK_4 (by omega) (by omega) (by omega) (by omega)]; exact byte_row h_e (by omega)))
        · refine jblk hF [(.iload_n 3, 1)] (by decide +kernel) (pc' := 40) (lo' := [(0, (0, a)), (1, (0, b)), (2, (0, c)), (3, (0, d)), (4, (0, e)), (5, (0, k))]) (st' := [(0, d)]) rfl ?_
          refine jgoto hF (off := 5) 45 (by decide +kernel) (by decide) ?_
          refine jblk hF [(.istore 6, 2), (.iload 6, 2), (.bipush 24, 2), (.bipush 8, 2), (.iload 5, 2), (.iconst 4, 1)] (by decide +kernel) (pc' := 56) (lo' := [(6, (0, d)), (0, (0, a)), (1, (0, b)), (2, (0, c)), (3, (0, d)), (4, (0, e)), (5, (0, k))]) (st' := [(0, 4), (0, k), (0, 8), (0, 24), (0, d)]) rfl ?_
          refine jiremN hF (by decide +kernel) (by omega) (by omega) ?_
          refine jblk hF [(.imul, 1), (.isub, 1), (.ishr, 1), (.sipush 255, 3), (.iand, 1)] (by decide +kernel) (pc' := 64) (lo' := [(6, (0, d)), (0, (0, a)), (1, (0, b)), (2, (0, c)), (3, (0, d)), (4, (0, e)), (5, (0, k))]) (st' := [(0, fand (fishr d (24 - (8 * (k % 4)))) 255)]) rfl ?_
          refine jiret hF hr (by decide +kernel) ?_
          exact lV (by first | (rw [byteK_0 (by omega)]; exact byte_row h_a (by omega)) | (rw [byteK_1 (by omega) (by omega)]; exact byte_row h_b (by omega)) | (rw [byteK_2 (by omega) (by omega) (by omega)]; exact byte_row h_c (by omega)) | (rw [byteK_3 (by omega) (by omega) (by omega) (by omega)]; exact byte_row h_d (by omega)) | (rw [byteK_4 (by omega) (by omega) (by omega) (by omega)]; exact byte_row h_e (by omega)))
      · refine jblk hF [(.iload_n 2, 1)] (by decide +kernel) (pc' := 29) (lo' := [(0, (0, a)), (1, (0, b)), (2, (0, c)), (3, (0, d)), (4, (0, e)), (5, (0, k))]) (st' := [(0, c)]) rfl ?_
        refine jgoto hF (off := 16) 45 (by decide +kernel) (by decide) ?_
        refine jblk hF [(.istore 6, 2), (.iload 6, 2), (.bipush 24, 2), (.bipush 8, 2), (.iload 5, 2), (.iconst 4, 1)] (by decide +kernel) (pc' := 56) (lo' := [(6, (0, c)), (0, (0, a)), (1, (0, b)), (2, (0, c)), (3, (0, d)), (4, (0, e)), (5, (0, k))]) (st' := [(0, 4), (0, k), (0, 8), (0, 24), (0, c)]) rfl ?_
        refine jiremN hF (by decide +kernel) (by omega) (by omega) ?_
        refine jblk hF [(.imul, 1), (.isub, 1), (.ishr, 1), (.sipush 255, 3), (.iand, 1)] (by decide +kernel) (pc' := 64) (lo' := [(6, (0, c)), (0, (0, a)), (1, (0, b)), (2, (0, c)), (3, (0, d)), (4, (0, e)), (5, (0, k))]) (st' := [(0, fand (fishr c (24 - (8 * (k % 4)))) 255)]) rfl ?_
        refine jiret hF hr (by decide +kernel) ?_
        exact lV (by first | (rw [byteK_0 (by omega)]; exact byte_row h_a (by omega)) | (rw [byteK_1 (by omega) (by omega)]; exact byte_row h_b (by omega)) | (rw [byteK_2 (by omega) (by omega) (by omega)]; exact byte_row h_c (by omega)) | (rw [byteK_3 (by omega) (by omega) (by omega) (by omega)]; exact byte_row h_d (by omega)) | (rw [byteK_4 (by omega) (by omega) (by omega) (by omega)]; exact byte_row h_e (by omega)))
    · refine jblk hF [(.iload_n 1, 1)] (by decide +kernel) (pc' := 18) (lo' := [(0, (0, a)), (1, (0, b)), (2, (0, c)), (3, (0, d)), (4, (0, e)), (5, (0, k))]) (st' := [(0, b)]) rfl ?_
      refine jgoto hF (off := 27) 45 (by decide +kernel) (by decide) ?_
      refine jblk hF [(.istore 6, 2), (.iload 6, 2), (.bipush 24, 2), (.bipush 8, 2), (.iload 5, 2), (.iconst 4, 1)] (by decide +kernel) (pc' := 56) (lo' := [(6, (0, b)), (0, (0, a)), (1, (0, b)), (2, (0, c)), (3, (0, d)), (4, (0, e)), (5, (0, k))]) (st' := [(0, 4), (0, k), (0, 8), (0, 24), (0, b)]) rfl ?_
      refine jiremN hF (by decide +kernel) (by omega) (by omega) ?_
      refine jblk hF [(.imul, 1), (.isub, 1), (.ishr, 1), (.sipush 255, 3), (.iand, 1)] (by decide +kernel) (pc' := 64) (lo' := [(6, (0, b)), (0, (0, a)), (1, (0, b)), (2, (0, c)), (3, (0, d)), (4, (0, e)), (5, (0, k))]) (st' := [(0, fand (fishr b (24 - (8 * (k % 4)))) 255)]) rfl ?_
      refine jiret hF hr (by decide +kernel) ?_
      exact lV (by first | (rw [byteK_0 (by omega)]; exact byte_row h_a (by omega)) | (rw [byteK_1 (by omega) (by omega)]; exact byte_row h_b (by omega)) | (rw [byteK_2 (by omega) (by omega) (by omega)]; exact byte_row h_c (by omega)) | (rw [byteK_3 (by omega) (by omega) (by omega) (by omega)]; exact byte_row h_d (by omega)) | (rw [byteK_4 (by omega) (by omega) (by omega) (by omega)]; exact byte_row h_e (by omega)))
  · refine jblk hF [(.iload_n 0, 1)] (by decide +kernel) (pc' := 7) (lo' := [(0, (0, a)), (1, (0, b)), (2, (0, c)), (3, (0, d)), (4, (0, e)), (5, (0, k))]) (st' := [(0, a)]) rfl ?_
    refine jgoto hF (off := 38) 45 (by decide +kernel) (by decide) ?_
    refine jblk hF [(.istore 6, 2), (.iload 6, 2), (.bipush 24, 2), (.bipush 8, 2), (.iload 5, 2), (.iconst 4, 1)] (by decide +kernel) (pc' := 56) (lo' := [(6, (0, a)), (0, (0, a)), (1, (0, b)), (2, (0, c)), (3, (0, d)), (4, (0, e)), (5, (0, k))]) (st' := [(0, 4), (0, k), (0, 8), (0, 24), (0, a)]) rfl ?_
    refine jiremN hF (by decide +kernel) (by omega) (by omega) ?_
    refine jblk hF [(.imul, 1), (.isub, 1), (.ishr, 1), (.sipush 255, 3), (.iand, 1)] (by decide +kernel) (pc' := 64) (lo' := [(6, (0, a)), (0, (0, a)), (1, (0, b)), (2, (0, c)), (3, (0, d)), (4, (0, e)), (5, (0, k))]) (st' := [(0, fand (fishr a (24 - (8 * (k % 4)))) 255)]) rfl ?_
    refine jiret hF hr (by decide +kernel) ?_
    exact lV (by first | (rw [byteK_0 (by omega)]; exact byte_row h_a (by omega)) | (rw [byteK_1 (by omega) (by omega)]; exact byte_row h_b (by omega)) | (rw [byteK_2 (by omega) (by omega) (by omega)]; exact byte_row h_c (by omega)) | (rw [byteK_3 (by omega) (by omega) (by omega) (by omega)]; exact byte_row h_d (by omega)) | (rw [byteK_4 (by omega) (by omega) (by omega) (by omega)]; exact byte_row h_e (by omega)))
set_option maxHeartbeats 4000000 in
set_option maxRecDepth 100000 in
theorem c_X12_feed {l : Launch} {g : GP} (hG : GH g) {kd : Int → Nat} {ln : Int → Int} {mem : Int → Int → Int} {sz : Nat} (hS : SK kd ln) (hR : SR mem) (a b c d e : Int) (h_a : InI a) (h_b : InI b) (h_c : InI c) (h_d : InI d) (h_e : InI e) (hz : 0 ≤ mem 35 11 ∧ mem 35 11 ≤ 160) : MT l g yX12_feed cX12_feed 9 (some .int) 1 0 0 [(2, 35), (0, a), (0, b), (0, c), (0, d), (0, e)] kd ln mem sz (pMR 0 (fun v mem' => SR mem' ∧ ((mem 35 11 + nzc (byteK a b c d e) 20 > 160 → v = -1 ∧ mem' = mem) ∧ (¬ mem 35 11 + nzc (byteK a b c d e) 20 > 160 → v = mem 35 11 + nzc (byteK a b c d e) 20 ∧ mem' = feedM (byteK a b c d e) mem 20))) kd ln sz) := by
  refine MT_of hG (by decide +kernel) (Nat.le_of_ble_eq_true rfl) (fun z hF hr hn => ?_)
  refine jblk hF [(.iconst 0, 1), (.istore 6, 2), (.iconst 0, 1), (.istore 7, 2)] (by decide +kernel) (pc' := 6) (lo' := [(7, (0, 0)), (6, (0, 0)), (0, (2, 35)), (1, (0, a)), (2, (0, b)), (3, (0, c)), (4, (0, d)), (5, (0, e))]) (st' := []) rfl ?_
  have L_2 : ∀ (fu_3 : Nat) (n : Int) (k : Int), (0 ≤ k ∧ k ≤ 20) → (n = nzc (byteK a b c d e) k.toNat) →  (20 - k).toNat < fu_3 → J z g 9 0 0 (QM z g 0 0 (pMR 0 (fun v mem' => SR mem' ∧ ((mem 35 11 + nzc (byteK a b c d e) 20 > 160 → v = -1 ∧ mem' = mem) ∧ (¬ mem 35 11 + nzc (byteK a b c d e) 20 > 160 → v = mem 35 11 + nzc (byteK a b c d e) 20 ∧ mem' = feedM (byteK a b c d e) mem 20))) kd ln sz)) 6 [(0, (2, 35)), (1, (0, a)), (2, (0, b)), (3, (0, c)), (4, (0, d)), (5, (0, e)), (6, (0, n)), (7, (0, k))] [] kd ln mem sz := by
    intro fu_3
    induction fu_3 with
    | zero => intro n k _ _ hm; omega
    | succ fu_3 ih_1 =>
      intro n k hk hn hm
      have hb0 := nzc_bd (byteK a b c d e) k.toNat
      have hb1 := nzc_bd (byteK a b c d e) 20
      refine jblk hF [(.iload 7, 2), (.bipush 20, 2)] (by decide +kernel) (pc' := 10) (lo' := [(0, (2, 35)), (1, (0, a)), (2, (0, b)), (3, (0, c)), (4, (0, d)), (5, (0, e)), (6, (0, n)), (7, (0, k))]) (st' := [(0, 20), (0, k)]) rfl ?_
      refine jicmp_ge hF (off := 34) 44 (by decide +kernel) (by decide) (by omega) (by decide) (fun h_4 => ?_) (fun h_4 => ?_)
      · have hk20 : k.toNat = 20 := by omega
        rw [hk20] at hn
        refine jblk hF [(.aload_n 0, 1)] (by decide +kernel) (pc' := 45) (lo' := [(0, (2, 35)), (1, (0, a)), (2, (0, b)), (3, (0, c)), (4, (0, d)), (5, (0, e)), (6, (0, n)), (7, (0, k))]) (st' := [(2, 35)]) rfl ?_
        refine jget hF 13 11 0 11 rfl (by decide) (by decide) rfl wd_1474 (by decide +kernel) (by exact hS.k35) ?_
        refine jblk hF [(.iload 6, 2), (.iadd, 1), (.sipush 160, 3)] (by decide +kernel) (pc' := 54) (lo' := [(0, (2, 35)), (1, (0, a)), (2, (0, b)), (3, (0, c)), (4, (0, d)), (5, (0, e)), (6, (0, n)), (7, (0, k))]) (st' := [(0, 160), (0, (mem 35 11) + n)]) rfl ?_
        refine jicmp_le hF (off := 5) 59 (by decide +kernel) (by decide) (by omega) (by decide) (fun h_5 => ?_) (fun h_5 => ?_)
        · refine jblk hF [(.iconst 0, 1), (.istore 7, 2)] (by decide +kernel) (pc' := 62) (lo' := [(7, (0, 0)), (0, (2, 35)), (1, (0, a)), (2, (0, b)), (3, (0, c)), (4, (0, d)), (5, (0, e)), (6, (0, n))]) (st' := []) rfl ?_
          have L_7 : ∀ (fu_8 : Nat) (k : Int) (m : Int → Int → Int), (0 ≤ k ∧ k ≤ 20) → (m = feedM (byteK a b c d e) mem k.toNat) → (SR m) →  (20 - k).toNat < fu_8 → J z g 9 0 0 (QM z g 0 0 (pMR 0 (fun v mem' => SR mem' ∧ ((mem 35 11 + nzc (byteK a b c d e) 20 > 160 → v = -1 ∧ mem' = mem) ∧ (¬ mem 35 11 + nzc (byteK a b c d e) 20 > 160 → v = mem 35 11 + nzc (byteK a b c d e) 20 ∧ mem' = feedM (byteK a b c d e) mem 20))) kd ln sz)) 62 [(0, (2, 35)), (1, (0, a)), (2, (0, b)), (3, (0, c)), (4, (0, d)), (5, (0, e)), (7, (0, k))] [] kd ln m sz := by
            intro fu_8
            induction fu_8 with
            | zero => intro k m _ _ _ hm; omega
            | succ fu_8 ih_6 =>
              intro k m hk2 hm2 hR_m hms
              have hsz := feedM_size (byteK a b c d e) mem k.toNat
              rw [← hm2] at hsz
              have hb1 := nzc_mono (byteK a b c d e) 20 k.toNat (by omega)
              have hb0 := nzc_bd (byteK a b c d e) k.toNat
              refine jblk hF [(.iload 7, 2), (.bipush 20, 2)] (by decide +kernel) (pc' := 66) (lo' := [(0, (2, 35)), (1, (0, a)), (2, (0, b)), (3, (0, c)), (4, (0, d)), (5, (0, e)), (7, (0, k))]) (st' := [(0, 20), (0, k)]) rfl ?_
              refine jicmp_ge hF (off := 49) 115 (by decide +kernel) (by decide) (by omega) (by decide) (fun h_9 => ?_) (fun h_9 => ?_)
              · refine jblk hF [(.aload_n 0, 1)] (by decide +kernel) (pc' := 116) (lo' := [(0, (2, 35)), (1, (0, a)), (2, (0, b)), (3, (0, c)), (4, (0, d)), (5, (0, e)), (7, (0, k))]) (st' := [(2, 35)]) rfl ?_
                refine jget hF 13 11 0 11 rfl (by decide) (by decide) rfl wd_1474 (by decide +kernel) (by exact hS.k35) ?_
                refine jiret hF hr (by decide +kernel) ?_
                exact lMR ⟨hR_m, by have hk21 : k.toNat = 20 := (by omega); rw [hk21] at hsz hm2; exact ⟨fun h => absurd h (by omega), fun _ => ⟨hsz, hm2⟩⟩⟩
              · refine jblk hF [(.iload_n 1, 1), (.iload_n 2, 1), (.iload_n 3, 1), (.iload 4, 2), (.iload 5, 2), (.iload 7, 2)] (by decide +kernel) (pc' := 78) (lo' := [(0, (2, 35)), (1, (0, a)), (2, (0, b)), (3, (0, c)), (4, (0, d)), (5, (0, e)), (7, (0, k))]) (st' := [(0, k), (0, e), (0, d), (0, c), (0, b), (0, a)]) rfl ?_
                refine jcallS hF (c_X12_byteOf hG a b c d e k (by omega) (by omega) (by omega) (by omega) (by omega) (by omega)) MW_X12_byteOf wd_1814 wd_1815 (by decide +kernel) [] rfl rfl (by decide) (Nat.le_of_ble_eq_true rfl) (by decide) (kV ?_)
                have hf_10 := byteK_bd a b c d e k
                refine jblk hF [(.istore 8, 2), (.iload 8, 2)] (by decide +kernel) (pc' := 85) (lo' := [(8, (0, byteK a b c d e k)), (0, (2, 35)), (1, (0, a)), (2, (0, b)), (3, (0, c)), (4, (0, d)), (5, (0, e)), (7, (0, k))]) (st' := [(0, byteK a b c d e k)]) rfl ?_
                refine jif_eq hF (off := 24) 109 (by decide +kernel) (by decide) (by omega) (fun h_11 => ?_) (fun h_11 => ?_)
                · refine jblk hF [(.iinc 7 1, 3)] (by decide +kernel) (pc' := 112) (lo' := [(7, (0, k + 1)), (8, (0, byteK a b c d e k)), (0, (2, 35)), (1, (0, a)), (2, (0, b)), (3, (0, c)), (4, (0, d)), (5, (0, e))]) (st' := []) rfl ?_
                  refine jgoto hF (off := (-50)) 62 (by decide +kernel) (by decide) ?_
                  refine jsub [2, 3, 4, 5, 6, 7, 0] rfl ?_
                  refine ih_6 (k + 1) m ?_ ?_ ?_ ?_
                  · omega
                  · rw [show (k + 1).toNat = k.toNat + 1 by omega, feedM, show ((k.toNat : Nat) : Int) = k by omega, ← hm2]; first | exact (if_pos (by omega)).symm | exact (if_neg (by omega)).symm
                  · first | exact hR_m | exact (hR_m.s (Or.inl (by decide))).s (Or.inr (by decide))
                  · omega
                · have hb2 := nzc_mono (byteK a b c d e) 20 (k.toNat + 1) (by omega)
                  rw [nzc, show ((k.toNat : Nat) : Int) = k by omega, if_neg (by omega)] at hb2
                  refine jblk hF [(.aload_n 0, 1)] (by decide +kernel) (pc' := 89) (lo' := [(8, (0, byteK a b c d e k)), (0, (2, 35)), (1, (0, a)), (2, (0, b)), (3, (0, c)), (4, (0, d)), (5, (0, e)), (7, (0, k))]) (st' := [(2, 35)]) rfl ?_
                  refine jget hF 13 7 2 7 rfl (by decide) (by decide) rfl wd_1470 (by decide +kernel) (by exact hS.k35) ?_
                  rw [SR.r7 hR_m]
                  refine jblk hF [(.aload_n 0, 1)] (by decide +kernel) (pc' := 93) (lo' := [(8, (0, byteK a b c d e k)), (0, (2, 35)), (1, (0, a)), (2, (0, b)), (3, (0, c)), (4, (0, d)), (5, (0, e)), (7, (0, k))]) (st' := [(2, 35), (2, 39)]) rfl ?_
                  refine jget hF 13 11 0 11 rfl (by decide) (by decide) rfl wd_1474 (by decide +kernel) (by exact hS.k35) ?_
                  refine jblk hF [(.iload 8, 2)] (by decide +kernel) (pc' := 98) (lo' := [(8, (0, byteK a b c d e k)), (0, (2, 35)), (1, (0, a)), (2, (0, b)), (3, (0, c)), (4, (0, d)), (5, (0, e)), (7, (0, k))]) (st' := [(0, byteK a b c d e k), (0, m 35 11), (2, 39)]) rfl ?_
                  refine jiast hF (by decide +kernel) (by decide) (by exact hS.k39) (by omega) (by have := hS.l39; omega) ?_
                  refine jblk hF [(.aload_n 0, 1), (.dup, 1)] (by decide +kernel) (pc' := 101) (lo' := [(8, (0, byteK a b c d e k)), (0, (2, 35)), (1, (0, a)), (2, (0, b)), (3, (0, c)), (4, (0, d)), (5, (0, e)), (7, (0, k))]) (st' := [(2, 35), (2, 35)]) rfl ?_
                  refine jget hF 13 11 0 11 rfl (by decide) (by decide) rfl wd_1474 (by decide +kernel) (by exact hS.k35) ?_
                  rw [show (set2 m 39 (m 35 11) (byteK a b c d e k)) 35 11 = m 35 11 from (s2_a (by decide))]
                  refine jblk hF [(.iconst 1, 1), (.iadd, 1)] (by decide +kernel) (pc' := 106) (lo' := [(8, (0, byteK a b c d e k)), (0, (2, 35)), (1, (0, a)), (2, (0, b)), (3, (0, c)), (4, (0, d)), (5, (0, e)), (7, (0, k))]) (st' := [(0, (m 35 11) + 1), (2, 35)]) rfl ?_
                  refine jput hF 13 11 0 11 rfl (by decide) (by decide) rfl wd_1474 (by decide +kernel) rfl (Or.inl rfl) (by exact hS.k35) (fun h => by cases h) ?_
                  refine jblk hF [(.iinc 7 1, 3)] (by decide +kernel) (pc' := 112) (lo' := [(7, (0, k + 1)), (8, (0, byteK a b c d e k)), (0, (2, 35)), (1, (0, a)), (2, (0, b)), (3, (0, c)), (4, (0, d)), (5, (0, e))]) (st' := []) rfl ?_
                  refine jgoto hF (off := (-50)) 62 (by decide +kernel) (by decide) ?_
                  refine jsub [2, 3, 4, 5, 6, 7, 0] rfl ?_
                  refine ih_6 (k + 1) (set2 (set2 m 39 (m 35 11) (byteK a b c d e k)) 35 11 ((m 35 11) + 1)) ?_ ?_ ?_ ?_
                  · omega
                  · rw [show (k + 1).toNat = k.toNat + 1 by omega, feedM, show ((k.toNat : Nat) : Int) = k by omega, ← hm2]; first | exact (if_pos (by omega)).symm | exact (if_neg (by omega)).symm
                  · first | exact hR_m | exact (hR_m.s (Or.inl (by decide))).s (Or.inr (by decide))
                  · omega
          refine jsub [1, 2, 3, 4, 5, 6, 0] rfl ?_
          refine L_7 _ 0 mem ?_ ?_ ?_ (Nat.lt_succ_self _)
          · omega
          · rfl
          · exact hR
        · refine jblk hF [(.iconst (-1), 1)] (by decide +kernel) (pc' := 58) (lo' := [(0, (2, 35)), (1, (0, a)), (2, (0, b)), (3, (0, c)), (4, (0, d)), (5, (0, e)), (6, (0, n)), (7, (0, k))]) (st' := [(0, (-1))]) rfl ?_
          refine jiret hF hr (by decide +kernel) ?_
          exact lMR ⟨hR, by exact ⟨fun _ => ⟨rfl, rfl⟩, fun h => absurd (by omega) h⟩⟩
      · refine jblk hF [(.iload 6, 2), (.iload_n 1, 1), (.iload_n 2, 1), (.iload_n 3, 1), (.iload 4, 2), (.iload 5, 2), (.iload 7, 2)] (by decide +kernel) (pc' := 24) (lo' := [(0, (2, 35)), (1, (0, a)), (2, (0, b)), (3, (0, c)), (4, (0, d)), (5, (0, e)), (6, (0, n)), (7, (0, k))]) (st' := [(0, k), (0, e), (0, d), (0, c), (0, b), (0, a), (0, n)]) rfl ?_
        refine jcallS hF (c_X12_byteOf hG a b c d e k (by omega) (by omega) (by omega) (by omega) (by omega) (by omega)) MW_X12_byteOf wd_1814 wd_1815 (by decide +kernel) [(0, n)] rfl rfl (by decide) (Nat.le_of_ble_eq_true rfl) (by decide) (kV ?_)
        have hf_12 := byteK_bd a b c d e k
        refine jif_eq hF (off := 7) 34 (by decide +kernel) (by decide) (by omega) (fun h_13 => ?_) (fun h_13 => ?_)
        · refine jblk hF [(.iconst 0, 1), (.iadd, 1), (.istore 6, 2), (.iinc 7 1, 3)] (by decide +kernel) (pc' := 41) (lo' := [(7, (0, k + 1)), (6, (0, n + 0)), (0, (2, 35)), (1, (0, a)), (2, (0, b)), (3, (0, c)), (4, (0, d)), (5, (0, e))]) (st' := []) rfl ?_
          refine jgoto hF (off := (-35)) 6 (by decide +kernel) (by decide) ?_
          refine jsub [2, 3, 4, 5, 6, 7, 1, 0] rfl ?_
          refine ih_1 (n + 0) (k + 1) ?_ ?_ ?_
          · omega
          · rw [show (k + 1).toNat = k.toNat + 1 by omega, nzc, show ((k.toNat : Nat) : Int) = k by omega]; split <;> omega
          · omega
        · refine jblk hF [(.iconst 1, 1)] (by decide +kernel) (pc' := 31) (lo' := [(0, (2, 35)), (1, (0, a)), (2, (0, b)), (3, (0, c)), (4, (0, d)), (5, (0, e)), (6, (0, n)), (7, (0, k))]) (st' := [(0, 1), (0, n)]) rfl ?_
          refine jgoto hF (off := 4) 35 (by decide +kernel) (by decide) ?_
          refine jblk hF [(.iadd, 1), (.istore 6, 2), (.iinc 7 1, 3)] (by decide +kernel) (pc' := 41) (lo' := [(7, (0, k + 1)), (6, (0, n + 1)), (0, (2, 35)), (1, (0, a)), (2, (0, b)), (3, (0, c)), (4, (0, d)), (5, (0, e))]) (st' := []) rfl ?_
          refine jgoto hF (off := (-35)) 6 (by decide +kernel) (by decide) ?_
          refine jsub [2, 3, 4, 5, 6, 7, 1, 0] rfl ?_
          refine ih_1 (n + 1) (k + 1) ?_ ?_ ?_
          · omega
          · rw [show (k + 1).toNat = k.toNat + 1 by omega, nzc, show ((k.toNat : Nat) : Int) = k by omega]; split <;> omega
          · omega
  refine jsub [2, 3, 4, 5, 6, 7, 1, 0] rfl ?_
  refine L_2 _ 0 0 ?_ ?_ (Nat.lt_succ_self _)
  · omega
  · rfl
set_option maxHeartbeats 4000000 in
set_option maxRecDepth 100000 in
theorem c_X12_end {l : Launch} {g : GP} (hG : GH g) {kd : Int → Nat} {ln : Int → Int} {mem : Int → Int → Int} {sz : Nat} (hS : SK kd ln) (hR : SR mem) (n : Int) (h_n : InI n) (hz : 0 ≤ mem 35 11 ∧ mem 35 11 ≤ 160) : MT l g yX12_end cX12_end 2 (some .boolean) 0 0 0 [(2, 35), (0, n)] kd ln mem sz (pMB (fun c mem' => SR mem' ∧ ((c ↔ (0 ≤ n ∧ n ≤ mem 35 11)) ∧ mem' = (if (0 ≤ n ∧ n ≤ mem 35 11) then set2 mem 35 11 n else mem))) kd ln sz) := by
  refine MT_of hG (by decide +kernel) (Nat.le_of_ble_eq_true rfl) (fun z hF hr hn => ?_)
  refine jblk hF [(.iload_n 1, 1)] (by decide +kernel) (pc' := 1) (lo' := [(0, (2, 35)), (1, (0, n))]) (st' := [(0, n)]) rfl ?_
  refine jif_lt hF (off := 11) 12 (by decide +kernel) (by decide) (by omega) (fun h_1 => ?_) (fun h_1 => ?_)
  · refine jblk hF [(.iconst 0, 1)] (by decide +kernel) (pc' := 13) (lo' := [(0, (2, 35)), (1, (0, n))]) (st' := [(0, 0)]) rfl ?_
    refine jzret hF hr (by omega) (by decide +kernel) ?_
    exact lMB0 ⟨hR, by first | exact ⟨⟨fun h => h.elim, fun h => absurd h (by omega)⟩, (if_neg (by omega)).symm⟩ | exact ⟨⟨fun _ => by omega, fun _ => trivial⟩, (if_pos (by omega)).symm⟩⟩
  · refine jblk hF [(.iload_n 1, 1), (.aload_n 0, 1)] (by decide +kernel) (pc' := 6) (lo' := [(0, (2, 35)), (1, (0, n))]) (st' := [(2, 35), (0, n)]) rfl ?_
    refine jget hF 13 11 0 11 rfl (by decide) (by decide) rfl wd_1474 (by decide +kernel) (by exact hS.k35) ?_
    refine jicmp_le hF (off := 5) 14 (by decide +kernel) (by decide) (by omega) (by omega) (fun h_2 => ?_) (fun h_2 => ?_)
    · refine jblk hF [(.aload_n 0, 1), (.iload_n 1, 1)] (by decide +kernel) (pc' := 16) (lo' := [(0, (2, 35)), (1, (0, n))]) (st' := [(0, n), (2, 35)]) rfl ?_
      refine jput hF 13 11 0 11 rfl (by decide) (by decide) rfl wd_1474 (by decide +kernel) rfl (Or.inl rfl) (by exact hS.k35) (fun h => by cases h) ?_
      refine jblk hF [(.iconst 1, 1)] (by decide +kernel) (pc' := 20) (lo' := [(0, (2, 35)), (1, (0, n))]) (st' := [(0, 1)]) rfl ?_
      refine jzret hF hr (by omega) (by decide +kernel) ?_
      exact lMB1 ⟨(SR.s hR (Or.inr (by decide))), by first | exact ⟨⟨fun h => h.elim, fun h => absurd h (by omega)⟩, (if_neg (by omega)).symm⟩ | exact ⟨⟨fun _ => by omega, fun _ => trivial⟩, (if_pos (by omega)).symm⟩⟩
    · refine jblk hF [(.iconst 0, 1)] (by decide +kernel) (pc' := 13) (lo' := [(0, (2, 35)), (1, (0, n))]) (st' := [(0, 0)]) rfl ?_
      refine jzret hF hr (by omega) (by decide +kernel) ?_
      exact lMB0 ⟨hR, by first | exact ⟨⟨fun h => h.elim, fun h => absurd h (by omega)⟩, (if_neg (by omega)).symm⟩ | exact ⟨⟨fun _ => by omega, fun _ => trivial⟩, (if_pos (by omega)).symm⟩⟩
end
