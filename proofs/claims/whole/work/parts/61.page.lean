section
set_option maxHeartbeats 4000000 in
set_option maxRecDepth 100000 in
theorem c_X3_toldOf {l : Launch} {g : GP} (hG : GH g) {kd : Int → Nat} {ln : Int → Int} {mem : Int → Int → Int} {sz : Nat} (p : Int) (n w : Int) (hkp : kd p = 5) (hp0 : 0 ≤ p) (hPB : PB mem p) (hn1 : 0 ≤ n ∧ n < mem p 2) (har : ∀ k : Int, 9 ≤ k → k ≤ 12 → kd (mem p k) = 20 ∧ ln (mem p k) = 40 ∧ 3 ≤ mem p k) (h_w : InI w) : MT l g yX3_toldOf cX3_toldOf 3 (some .int) 1 0 0 [(2, p), (0, n), (0, w)] kd ln mem sz (pV (0, (if w = 0 then mem p 1 + n * mem p 3 else if w = 1 then n / mem p 7 else if w = 2 then n % mem p 7 else if w = 3 then mem (mem p 9) n else if w = 4 then mem (mem p 10) n else if w = 5 then mem (mem p 11) n else if w = 6 then mem (mem p 12) n else -1)) kd ln mem sz) := by
  refine MT_of hG (by decide +kernel) (Nat.le_of_ble_eq_true rfl) (fun z hF hr hn => ?_)
  have ⟨b1, b2, b3, b4, b5, b6, b7, b8, b9, b10, b11, b12, b13, b14, b15, b16⟩ := hPB
  have ha9 := har 9 (by omega) (by omega)
  have ha10 := har 10 (by omega) (by omega)
  have ha11 := har 11 (by omega) (by omega)
  have ha12 := har 12 (by omega) (by omega)
  have hk9 := ha9.1
  have hk10 := ha10.1
  have hk11 := ha11.1
  have hk12 := ha12.1
  have hd1 := ediv_mul_bd n (mem p 7) (by omega)
  have hd2 := Int.mul_ediv_add_emod n (mem p 7)
  rw [Int.mul_comm] at hd2
  have hd3 := ediv_bd n (mem p 7) (by omega)
  refine jblk hF [(.iload_n 2, 1)] (by decide +kernel) (pc' := 1) (lo' := [(0, (2, p)), (1, (0, n)), (2, (0, w))]) (st' := [(0, w)]) rfl ?_
  by_cases h_1 : w = 0
  · refine jtabIn hF (dflt := 95) (lo' := 0) (hi := 6) (offs := #[43, 49, 55, 67, 74, 81, 88]) (len := 43) 0 43 44 (by decide +kernel) h_1 (by decide) (by decide) (by decide) rfl (by decide) ?_
    refine jblk hF [(.aload_n 0, 1), (.iload_n 1, 1)] (by decide +kernel) (pc' := 46) (lo' := [(0, (2, p)), (1, (0, n)), (2, (0, w))]) (st' := [(0, n), (2, p)]) rfl ?_
    refine jcallV hF (c_X3_xOf hG p n (by first | assumption | omega) (by omega) (by omega) (by omega)) MW_X3_xOf 4 (by decide) (by first | assumption | omega) wd_781 wd_782 wd_783 (by decide +kernel) [] rfl rfl (by decide) (Nat.le_of_ble_eq_true rfl) (by decide) (kV ?_)
    refine jiret hF hr (by decide +kernel) ?_
    exact lV (by (repeat' split) <;> first | rfl | omega)
  by_cases h_2 : w = 1
  · refine jtabIn hF (dflt := 95) (lo' := 0) (hi := 6) (offs := #[43, 49, 55, 67, 74, 81, 88]) (len := 43) 1 49 50 (by decide +kernel) h_2 (by decide) (by decide) (by decide) rfl (by decide) ?_
    refine jblk hF [(.aload_n 0, 1), (.iload_n 1, 1)] (by decide +kernel) (pc' := 52) (lo' := [(0, (2, p)), (1, (0, n)), (2, (0, w))]) (st' := [(0, n), (2, p)]) rfl ?_
    refine jcallV hF (c_X3_blockOf hG p n (by first | assumption | omega) (by omega) (by omega) (by omega)) MW_X3_blockOf 4 (by decide) (by first | assumption | omega) wd_789 wd_790 wd_791 (by decide +kernel) [] rfl rfl (by decide) (Nat.le_of_ble_eq_true rfl) (by decide) (kV ?_)
    refine jiret hF hr (by decide +kernel) ?_
    exact lV (by (repeat' split) <;> first | rfl | omega)
  by_cases h_3 : w = 2
  · refine jtabIn hF (dflt := 95) (lo' := 0) (hi := 6) (offs := #[43, 49, 55, 67, 74, 81, 88]) (len := 43) 2 55 56 (by decide +kernel) h_3 (by decide) (by decide) (by decide) rfl (by decide) ?_
    refine jblk hF [(.iload_n 1, 1), (.aload_n 0, 1), (.aload_n 0, 1), (.iload_n 1, 1)] (by decide +kernel) (pc' := 60) (lo' := [(0, (2, p)), (1, (0, n)), (2, (0, w))]) (st' := [(0, n), (2, p), (2, p), (0, n)]) rfl ?_
    refine jcallV hF (c_X3_blockOf hG p n (by first | assumption | omega) (by omega) (by omega) (by omega)) MW_X3_blockOf 4 (by decide) (by first | assumption | omega) wd_789 wd_790 wd_791 (by decide +kernel) [(2, p), (0, n)] rfl rfl (by decide) (Nat.le_of_ble_eq_true rfl) (by decide) (kV ?_)
    refine jcallV hF (c_X3_startOf hG p (n / mem p 7) (by first | assumption | omega) (by omega) (by omega) (by omega)) MW_X3_startOf 4 (by decide) (by first | assumption | omega) wd_830 wd_831 wd_832 (by decide +kernel) [(0, n)] rfl rfl (by decide) (Nat.le_of_ble_eq_true rfl) (by decide) (kV ?_)
    refine jblk hF [(.isub, 1)] (by decide +kernel) (pc' := 67) (lo' := [(0, (2, p)), (1, (0, n)), (2, (0, w))]) (st' := [(0, n - ((n / mem p 7) * mem p 7))]) rfl ?_
    refine jiret hF hr (by decide +kernel) ?_
    exact lV (by (repeat' split) <;> first | rfl | omega)
  by_cases h_4 : w = 3
  · refine jtabIn hF (dflt := 95) (lo' := 0) (hi := 6) (offs := #[43, 49, 55, 67, 74, 81, 88]) (len := 43) 3 67 68 (by decide +kernel) h_4 (by decide) (by decide) (by decide) rfl (by decide) ?_
    refine jblk hF [(.aload_n 0, 1)] (by decide +kernel) (pc' := 69) (lo' := [(0, (2, p)), (1, (0, n)), (2, (0, w))]) (st' := [(2, p)]) rfl ?_
    refine jget hF 4 9 2 9 rfl (by decide) (by decide) rfl wd_710 (by decide +kernel) (by first | assumption | omega) ?_
    refine jblk hF [(.iload_n 1, 1)] (by decide +kernel) (pc' := 73) (lo' := [(0, (2, p)), (1, (0, n)), (2, (0, w))]) (st' := [(0, n), (2, mem p 9)]) rfl ?_
    refine jiald hF (by decide +kernel) (by first | assumption | omega) (by omega) (by omega) ?_
    refine jiret hF hr (by decide +kernel) ?_
    exact lV (by (repeat' split) <;> first | rfl | omega)
  by_cases h_5 : w = 4
  · refine jtabIn hF (dflt := 95) (lo' := 0) (hi := 6) (offs := #[43, 49, 55, 67, 74, 81, 88]) (len := 43) 4 74 75 (by decide +kernel) h_5 (by decide) (by decide) (by decide) rfl (by decide) ?_
    refine jblk hF [(.aload_n 0, 1)] (by decide +kernel) (pc' := 76) (lo' := [(0, (2, p)), (1, (0, n)), (2, (0, w))]) (st' := [(2, p)]) rfl ?_
    refine jget hF 4 10 2 10 rfl (by decide) (by decide) rfl wd_712 (by decide +kernel) (by first | assumption | omega) ?_
    refine jblk hF [(.iload_n 1, 1)] (by decide +kernel) (pc' := 80) (lo' := [(0, (2, p)), (1, (0, n)), (2, (0, w))]) (st' := [(0, n), (2, mem p 10)]) rfl ?_
    refine jiald hF (by decide +kernel) (by first | assumption | omega) (by omega) (by omega) ?_
    refine jiret hF hr (by decide +kernel) ?_
    exact lV (by (repeat' split) <;> first | rfl | omega)
  by_cases h_6 : w = 5
  · refine jtabIn hF (dflt := 95) (lo' := 0) (hi := 6) (offs := #[43, 49, 55, 67, 74, 81, 88]) (len := 43) 5 81 82 (by decide +kernel) h_6 (by decide) (by decide) (by decide) rfl (by decide) ?_
    refine jblk hF [(.aload_n 0, 1)] (by decide +kernel) (pc' := 83) (lo' := [(0, (2, p)), (1, (0, n)), (2, (0, w))]) (st' := [(2, p)]) rfl ?_
    refine jget hF 4 11 2 11 rfl (by decide) (by decide) rfl wd_714 (by decide +kernel) (by first | assumption | omega) ?_
    refine jblk hF [(.iload_n 1, 1)] (by decide +kernel) (pc' := 87) (lo' := [(0, (2, p)), (1, (0, n)), (2, (0, w))]) (st' := [(0, n), (2, mem p 11)]) rfl ?_
    refine jiald hF (by decide +kernel) (by first | assumption | omega) (by omega) (by omega) ?_
    refine jiret hF hr (by decide +kernel) ?_
    exact lV (by (repeat' split) <;> first | rfl | omega)
  by_cases h_7 : w = 6
  · refine jtabIn hF (dflt := 95) (lo' := 0) (hi := 6) (offs := #[43, 49, 55, 67, 74, 81, 88]) (len := 43) 6 88 89 (by decide +kernel) h_7 (by decide) (by decide) (by decide) rfl (by decide) ?_
    refine jblk hF [(.aload_n 0, 1)] (by decide +kernel) (pc' := 90) (lo' := [(0, (2, p)), (1, (0, n)), (2, (0, w))]) (st' := [(2, p)]) rfl ?_
    refine jget hF 4 12 2 12 rfl (by decide) (by decide) rfl wd_716 (by decide +kernel) (by first | assumption | omega) ?_
    refine jblk hF [(.iload_n 1, 1)] (by decide +kernel) (pc' := 94) (lo' := [(0, (2, p)), (1, (0, n)), (2, (0, w))]) (st' := [(0, n), (2, mem p 12)]) rfl ?_
    refine jiald hF (by decide +kernel) (by first | assumption | omega) (by omega) (by omega) ?_
    refine jiret hF hr (by decide +kernel) ?_
    exact lV (by (repeat' split) <;> first | rfl | omega)
  refine jtabOut hF (dflt := 95) (lo' := 0) (hi := 6) (offs := #[43, 49, 55, 67, 74, 81, 88]) (len := 43) 96 (by decide +kernel) (by omega) (by omega) (by decide) ?_
  refine jblk hF [(.iconst (-1), 1)] (by decide +kernel) (pc' := 97) (lo' := [(0, (2, p)), (1, (0, n)), (2, (0, w))]) (st' := [(0, (-1))]) rfl ?_
  refine jiret hF hr (by decide +kernel) ?_
  exact lV (by (repeat' split) <;> first | rfl | omega)
set_option maxHeartbeats 4000000 in
set_option maxRecDepth 100000 in
theorem c_X3_setLine {l : Launch} {g : GP} (hG : GH g) {kd : Int → Nat} {ln : Int → Int} {mem : Int → Int → Int} {sz : Nat} (p : Int) (n v : Int) (hkp : kd p = 5) (hp0 : 0 ≤ p) (hk17 : 0 ≤ mem p 17 → kd (mem p 17) = 21 ∧ ln (mem p 17) = 40 ∧ 3 ≤ mem p 17) (h2 : 0 ≤ mem p 2 ∧ mem p 2 ≤ 40) (h_n : InI n) : MT l g yX3_setLine cX3_setLine 4 none 2 0 0 [(2, p), (0, n), (1, v)] kd ln mem sz (pMV (fun mem' => (mem' = (if 0 ≤ mem p 17 ∧ 0 ≤ n ∧ n ≤ mem p 2 - 1 then set2 mem (mem p 17) n v else mem))) kd ln sz) := by
  refine MT_of hG (by decide +kernel) (Nat.le_of_ble_eq_true rfl) (fun z hF hr hn => ?_)
  refine jblk hF [(.aload_n 0, 1)] (by decide +kernel) (pc' := 1) (lo' := [(0, (2, p)), (1, (0, n)), (2, (1, v))]) (st' := [(2, p)]) rfl ?_
  refine jget hF 4 17 2 17 rfl (by decide) (by decide) rfl wd_727 (by decide +kernel) (by first | assumption | omega) ?_
  refine jnull hF (off := 18) 22 (by decide +kernel) (by decide) (fun h_1 => ?_) (fun h_1 => ?_)
  · refine jvret hF hr (by decide +kernel) ?_
    exact lMV (by first | exact (if_pos (by omega)).symm | exact (if_neg (by omega)).symm)
  · have hkp2 := hk17 (by omega)
    have hkp3 := hkp2.1
    refine jblk hF [(.aload_n 0, 1), (.iload_n 1, 1)] (by decide +kernel) (pc' := 9) (lo' := [(0, (2, p)), (1, (0, n)), (2, (1, v))]) (st' := [(0, n), (2, p)]) rfl ?_
    refine jcallV hF (c_X3_hasLine hG p n (by first | assumption | omega) (by omega) (by omega) (by omega)) MW_X3_hasLine 4 (by decide) (by first | assumption | omega) wd_1120 wd_874 wd_875 (by decide +kernel) [] rfl rfl (by decide) (Nat.le_of_ble_eq_true rfl) (by decide) (kB (fun h_2 => ?_) (fun h_2 => ?_))
    · refine jif_eq hF (off := 10) 22 (by decide +kernel) (by decide) (by decide) (fun h => absurd h (by decide)) (fun _ => ?_)
      refine jblk hF [(.aload_n 0, 1)] (by decide +kernel) (pc' := 16) (lo' := [(0, (2, p)), (1, (0, n)), (2, (1, v))]) (st' := [(2, p)]) rfl ?_
      refine jget hF 4 17 2 17 rfl (by decide) (by decide) rfl wd_727 (by decide +kernel) (by first | assumption | omega) ?_
      refine jblk hF [(.iload_n 1, 1), (.lload_n 2, 1)] (by decide +kernel) (pc' := 21) (lo' := [(0, (2, p)), (1, (0, n)), (2, (1, v))]) (st' := [(1, v), (0, n), (2, mem p 17)]) rfl ?_
      refine jlast hF (by decide +kernel) (by omega) (by first | assumption | omega) (by omega) (by omega) ?_
      refine jvret hF hr (by decide +kernel) ?_
      exact lMV (by first | exact (if_pos (by omega)).symm | exact (if_neg (by omega)).symm)
    · refine jif_eq hF (off := 10) 22 (by decide +kernel) (by decide) (by decide) (fun _ => ?_) (fun h => absurd h (by decide))
      refine jvret hF hr (by decide +kernel) ?_
      exact lMV (by first | exact (if_pos (by omega)).symm | exact (if_neg (by omega)).symm)
end
