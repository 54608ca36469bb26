section
/-- the numbers of a page that can be followed -/
abbrev PB (mem : Int → Int → Int) (p : Int) : Prop := 2 ≤ mem p 2 ∧ mem p 2 ≤ 40 ∧ 1 ≤ mem p 1 ∧ mem p 1 ≤ 9999 ∧ 1 ≤ mem p 3 ∧ mem p 3 ≤ 50 ∧ 1 ≤ mem p 4 ∧ mem p 4 ≤ 4 ∧ 0 ≤ mem p 5 ∧ mem p 5 ≤ 5 ∧ 0 ≤ mem p 6 ∧ mem p 5 + mem p 6 ≤ 6 ∧ mem p 4 + 2 ≤ mem p 7 ∧ mem p 7 ≤ 40 ∧ 0 ≤ mem p 8 ∧ mem p 8 ≤ 2
def enV (mem : Int → Int → Int) (p b : Int) : Int := if (b + 1) * mem p 7 < mem p 2 then (b + 1) * mem p 7 else mem p 2
def mdV (mem : Int → Int → Int) (p b : Int) : Int := if b * mem p 7 + mem p 4 + 1 < enV mem p b then b * mem p 7 + mem p 4 + 1 else enV mem p b
theorem enV_bd {mem : Int → Int → Int} {p b : Int} (h : PB mem p) (hb : 0 ≤ b ∧ b ≤ 40) : 0 ≤ enV mem p b ∧ enV mem p b ≤ 40 := by
  have h1 := mul_bd (a := b + 1) (b := mem p 7) (M := 41) (N := 40) (by omega) (by omega)
  unfold enV
  split <;> omega
theorem mdV_bd {mem : Int → Int → Int} {p b : Int} (h : PB mem p) (hb : 0 ≤ b ∧ b ≤ 40) : 0 ≤ mdV mem p b ∧ mdV mem p b ≤ 40 := by
  have h1 := mul_bd (a := b) (b := mem p 7) (M := 40) (N := 40) (by omega) (by omega)
  have h2 := enV_bd h hb
  unfold mdV
  split <;> omega
theorem mdV_le {mem : Int → Int → Int} {p n : Int} (h : PB mem p) (hn1 : 0 ≤ n ∧ n < mem p 2) : mdV mem p (n / mem p 7) ≤ n ↔ mem p 4 < n % mem p 7 := by
  have hd1 := ediv_mul_bd n (mem p 7) (by omega)
  have hd2 := Int.mul_ediv_add_emod n (mem p 7)
  rw [Int.mul_comm] at hd2
  have hd4 : (n / mem p 7 + 1) * mem p 7 = n / mem p 7 * mem p 7 + mem p 7 := by rw [Int.add_mul, Int.one_mul]
  unfold mdV enV
  rw [hd4]
  split <;> split <;> omega
set_option maxHeartbeats 4000000 in
set_option maxRecDepth 100000 in
theorem c_X3_xOf {l : Launch} {g : GP} (hG : GH g) {kd : Int → Nat} {ln : Int → Int} {mem : Int → Int → Int} {sz : Nat} (p : Int) (n : Int) (hkp : kd p = 5) (hp0 : 0 ≤ p) (hi : 0 ≤ mem p 3 ∧ mem p 3 ≤ 50 ∧ 0 ≤ mem p 1 ∧ mem p 1 ≤ 9999) (hn1 : 0 ≤ n ∧ n ≤ 40) : MT l g yX3_xOf cX3_xOf 2 (some .int) 0 0 0 [(2, p), (0, n)] kd ln mem sz (pV (0, mem p 1 + n * mem p 3) kd ln mem sz) := by
  refine MT_of hG (by decide +kernel) (Nat.le_of_ble_eq_true rfl) (fun z hF hr hn => ?_)
  have hmb := mul_bd (a := n) (b := mem p 3) (M := 40) (N := 50) (by omega) (by omega)
  refine jblk hF [(.aload_n 0, 1)] (by decide +kernel) (pc' := 1) (lo' := [(0, (2, p)), (1, (0, n))]) (st' := [(2, p)]) rfl ?_
  refine jget hF 4 1 0 1 rfl (by decide) (by decide) rfl wd_695 (by decide +kernel) (by first | assumption | omega) ?_
  refine jblk hF [(.iload_n 1, 1), (.aload_n 0, 1)] (by decide +kernel) (pc' := 6) (lo' := [(0, (2, p)), (1, (0, n))]) (st' := [(2, p), (0, n), (0, mem p 1)]) rfl ?_
  refine jget hF 4 3 0 3 rfl (by decide) (by decide) rfl wd_698 (by decide +kernel) (by first | assumption | omega) ?_
  refine jblk hF [(.imul, 1), (.iadd, 1)] (by decide +kernel) (pc' := 11) (lo' := [(0, (2, p)), (1, (0, n))]) (st' := [(0, (mem p 1) + (n * (mem p 3)))]) rfl ?_
  refine jiret hF hr (by decide +kernel) ?_
  exact lV (by omega)
set_option maxHeartbeats 4000000 in
set_option maxRecDepth 100000 in
theorem c_X3_blockOf {l : Launch} {g : GP} (hG : GH g) {kd : Int → Nat} {ln : Int → Int} {mem : Int → Int → Int} {sz : Nat} (p : Int) (n : Int) (hkp : kd p = 5) (hp0 : 0 ≤ p) (hi : 1 ≤ mem p 7 ∧ mem p 7 ≤ 40) (hn1 : 0 ≤ n ∧ n ≤ 1000) : MT l g yX3_blockOf cX3_blockOf 2 (some .int) 0 0 0 [(2, p), (0, n)] kd ln mem sz (pV (0, n / mem p 7) kd ln mem sz) := by
  refine MT_of hG (by decide +kernel) (Nat.le_of_ble_eq_true rfl) (fun z hF hr hn => ?_)
  have hd3 := ediv_bd n (mem p 7) (by omega)
  refine jblk hF [(.aload_n 0, 1)] (by decide +kernel) (pc' := 1) (lo' := [(0, (2, p)), (1, (0, n))]) (st' := [(2, p)]) rfl ?_
  refine jget hF 4 7 0 7 rfl (by decide) (by decide) rfl wd_707 (by decide +kernel) (by first | assumption | omega) ?_
  refine jif_le hF (off := 12) 16 (by decide +kernel) (by decide) (by omega) (fun h_1 => ?_) (fun h_1 => ?_)
  · refine jblk hF [(.iconst 0, 1)] (by decide +kernel) (pc' := 17) (lo' := [(0, (2, p)), (1, (0, n))]) (st' := [(0, 0)]) rfl ?_
    refine jiret hF hr (by decide +kernel) ?_
    exact lV (by omega)
  · refine jblk hF [(.iload_n 1, 1), (.aload_n 0, 1)] (by decide +kernel) (pc' := 9) (lo' := [(0, (2, p)), (1, (0, n))]) (st' := [(2, p), (0, n)]) rfl ?_
    refine jget hF 4 7 0 7 rfl (by decide) (by decide) rfl wd_707 (by decide +kernel) (by first | assumption | omega) ?_
    refine jidivN hF (by decide +kernel) (by omega) (by omega) ?_
    refine jgoto hF (off := 4) 17 (by decide +kernel) (by decide) ?_
    refine jiret hF hr (by decide +kernel) ?_
    exact lV (by omega)
set_option maxHeartbeats 4000000 in
set_option maxRecDepth 100000 in
theorem c_X3_startOf {l : Launch} {g : GP} (hG : GH g) {kd : Int → Nat} {ln : Int → Int} {mem : Int → Int → Int} {sz : Nat} (p : Int) (b : Int) (hkp : kd p = 5) (hp0 : 0 ≤ p) (hi : 0 ≤ mem p 7 ∧ mem p 7 ≤ 40) (hn1 : 0 ≤ b ∧ b ≤ 1000) : MT l g yX3_startOf cX3_startOf 2 (some .int) 0 0 0 [(2, p), (0, b)] kd ln mem sz (pV (0, b * mem p 7) kd ln mem sz) := by
  refine MT_of hG (by decide +kernel) (Nat.le_of_ble_eq_true rfl) (fun z hF hr hn => ?_)
  have hmb := mul_bd (a := b) (b := mem p 7) (M := 1000) (N := 40) (by omega) (by omega)
  refine jblk hF [(.iload_n 1, 1), (.aload_n 0, 1)] (by decide +kernel) (pc' := 2) (lo' := [(0, (2, p)), (1, (0, b))]) (st' := [(2, p), (0, b)]) rfl ?_
  refine jget hF 4 7 0 7 rfl (by decide) (by decide) rfl wd_707 (by decide +kernel) (by first | assumption | omega) ?_
  refine jblk hF [(.imul, 1)] (by decide +kernel) (pc' := 6) (lo' := [(0, (2, p)), (1, (0, b))]) (st' := [(0, b * (mem p 7))]) rfl ?_
  refine jiret hF hr (by decide +kernel) ?_
  exact lV (by omega)
set_option maxHeartbeats 4000000 in
set_option maxRecDepth 100000 in
theorem c_X3_endOf {l : Launch} {g : GP} (hG : GH g) {kd : Int → Nat} {ln : Int → Int} {mem : Int → Int → Int} {sz : Nat} (p : Int) (b : Int) (hkp : kd p = 5) (hp0 : 0 ≤ p) (hPB : PB mem p) (hn1 : 0 ≤ b ∧ b ≤ 40) : MT l g yX3_endOf cX3_endOf 3 (some .int) 0 0 0 [(2, p), (0, b)] kd ln mem sz (pV (0, enV mem p b) kd ln mem sz) := by
  refine MT_of hG (by decide +kernel) (Nat.le_of_ble_eq_true rfl) (fun z hF hr hn => ?_)
  have ⟨b1, b2, b3, b4, b5, b6, b7, b8, b9, b10, b11, b12, b13, b14, b15, b16⟩ := hPB
  have hmb := mul_bd (a := b + 1) (b := mem p 7) (M := 41) (N := 40) (by omega) (by omega)
  refine jblk hF [(.iload_n 1, 1), (.iconst 1, 1), (.iadd, 1), (.aload_n 0, 1)] (by decide +kernel) (pc' := 4) (lo' := [(0, (2, p)), (1, (0, b))]) (st' := [(2, p), (0, b + 1)]) rfl ?_
  refine jget hF 4 7 0 7 rfl (by decide) (by decide) rfl wd_707 (by decide +kernel) (by first | assumption | omega) ?_
  refine jblk hF [(.imul, 1), (.istore_n 2, 1), (.iload_n 2, 1), (.aload_n 0, 1)] (by decide +kernel) (pc' := 11) (lo' := [(2, (0, (b + 1) * (mem p 7))), (0, (2, p)), (1, (0, b))]) (st' := [(2, p), (0, (b + 1) * (mem p 7))]) rfl ?_
  refine jget hF 4 2 0 2 rfl (by decide) (by decide) rfl wd_696 (by decide +kernel) (by first | assumption | omega) ?_
  refine jicmp_ge hF (off := 7) 21 (by decide +kernel) (by decide) (by omega) (by omega) (fun h_1 => ?_) (fun h_1 => ?_)
  · refine jblk hF [(.aload_n 0, 1)] (by decide +kernel) (pc' := 22) (lo' := [(2, (0, (b + 1) * (mem p 7))), (0, (2, p)), (1, (0, b))]) (st' := [(2, p)]) rfl ?_
    refine jget hF 4 2 0 2 rfl (by decide) (by decide) rfl wd_696 (by decide +kernel) (by first | assumption | omega) ?_
    refine jiret hF hr (by decide +kernel) ?_
    exact lV (by (unfold enV; first | exact (if_pos (by omega)).symm | exact (if_neg (by omega)).symm))
  · refine jblk hF [(.iload_n 2, 1)] (by decide +kernel) (pc' := 18) (lo' := [(2, (0, (b + 1) * (mem p 7))), (0, (2, p)), (1, (0, b))]) (st' := [(0, (b + 1) * (mem p 7))]) rfl ?_
    refine jgoto hF (off := 7) 25 (by decide +kernel) (by decide) ?_
    refine jiret hF hr (by decide +kernel) ?_
    exact lV (by (unfold enV; first | exact (if_pos (by omega)).symm | exact (if_neg (by omega)).symm))
set_option maxHeartbeats 4000000 in
set_option maxRecDepth 100000 in
theorem c_X3_madeFrom {l : Launch} {g : GP} (hG : GH g) {kd : Int → Nat} {ln : Int → Int} {mem : Int → Int → Int} {sz : Nat} (p : Int) (b : Int) (hkp : kd p = 5) (hp0 : 0 ≤ p) (hPB : PB mem p) (hn1 : 0 ≤ b ∧ b ≤ 40) : MT l g yX3_madeFrom cX3_madeFrom 2 (some .int) 1 0 0 [(2, p), (0, b)] kd ln mem sz (pV (0, mdV mem p b) kd ln mem sz) := by
  refine MT_of hG (by decide +kernel) (Nat.le_of_ble_eq_true rfl) (fun z hF hr hn => ?_)
  have ⟨b1, b2, b3, b4, b5, b6, b7, b8, b9, b10, b11, b12, b13, b14, b15, b16⟩ := hPB
  have hmb := mul_bd (a := b) (b := mem p 7) (M := 40) (N := 40) (by omega) (by omega)
  have hen := enV_bd hPB hn1
  refine jblk hF [(.aload_n 0, 1), (.iload_n 1, 1)] (by decide +kernel) (pc' := 2) (lo' := [(0, (2, p)), (1, (0, b))]) (st' := [(0, b), (2, p)]) rfl ?_
  refine jcallV hF (c_X3_endOf hG p b (by first | assumption | omega) (by omega) (by assumption) (by omega)) MW_X3_endOf 4 (by decide) (by first | assumption | omega) wd_826 wd_827 wd_828 (by decide +kernel) [] rfl rfl (by decide) (Nat.le_of_ble_eq_true rfl) (by decide) (kV ?_)
  refine jblk hF [(.aload_n 0, 1), (.iload_n 1, 1)] (by decide +kernel) (pc' := 7) (lo' := [(0, (2, p)), (1, (0, b))]) (st' := [(0, b), (2, p), (0, enV mem p b)]) rfl ?_
  refine jcallV hF (c_X3_startOf hG p b (by first | assumption | omega) (by omega) (by omega) (by omega)) MW_X3_startOf 4 (by decide) (by first | assumption | omega) wd_830 wd_831 wd_832 (by decide +kernel) [(0, enV mem p b)] rfl rfl (by decide) (Nat.le_of_ble_eq_true rfl) (by decide) (kV ?_)
  refine jblk hF [(.aload_n 0, 1)] (by decide +kernel) (pc' := 11) (lo' := [(0, (2, p)), (1, (0, b))]) (st' := [(2, p), (0, b * mem p 7), (0, enV mem p b)]) rfl ?_
  refine jget hF 4 4 0 4 rfl (by decide) (by decide) rfl wd_700 (by decide +kernel) (by first | assumption | omega) ?_
  refine jblk hF [(.iadd, 1), (.iconst 1, 1), (.iadd, 1)] (by decide +kernel) (pc' := 17) (lo' := [(0, (2, p)), (1, (0, b))]) (st' := [(0, ((b * mem p 7) + (mem p 4)) + 1), (0, enV mem p b)]) rfl ?_
  refine jcallS hF (c_J9_min_7cf53 hG (enV mem p b) (((b * mem p 7) + (mem p 4)) + 1) (by omega) (by omega)) MW_J9_min_7cf53 wd_834 wd_483 (by decide +kernel) [] rfl rfl (by decide) (Nat.le_of_ble_eq_true rfl) (by decide) (kV ?_)
  refine jiret hF hr (by decide +kernel) ?_
  exact lV (by rfl)
set_option maxHeartbeats 4000000 in
set_option maxRecDepth 100000 in
theorem c_X3_blocks {l : Launch} {g : GP} (hG : GH g) {kd : Int → Nat} {ln : Int → Int} {mem : Int → Int → Int} {sz : Nat} (p : Int) (hkp : kd p = 5) (hp0 : 0 ≤ p) (hPB : PB mem p) : MT l g yX3_blocks cX3_blocks 1 (some .int) 1 0 0 [(2, p)] kd ln mem sz (pV (0, (mem p 2 - 1) / mem p 7 + 1) kd ln mem sz) := by
  refine MT_of hG (by decide +kernel) (Nat.le_of_ble_eq_true rfl) (fun z hF hr hn => ?_)
  have ⟨b1, b2, b3, b4, b5, b6, b7, b8, b9, b10, b11, b12, b13, b14, b15, b16⟩ := hPB
  have hd3 := ediv_bd (mem p 2 - 1) (mem p 7) (by omega)
  refine jblk hF [(.aload_n 0, 1), (.aload_n 0, 1)] (by decide +kernel) (pc' := 2) (lo' := [(0, (2, p))]) (st' := [(2, p), (2, p)]) rfl ?_
  refine jget hF 4 2 0 2 rfl (by decide) (by decide) rfl wd_696 (by decide +kernel) (by first | assumption | omega) ?_
  refine jblk hF [(.iconst 1, 1), (.isub, 1)] (by decide +kernel) (pc' := 7) (lo' := [(0, (2, p))]) (st' := [(0, (mem p 2) - 1), (2, p)]) rfl ?_
  refine jcallV hF (c_X3_blockOf hG p ((mem p 2) - 1) (by first | assumption | omega) (by omega) (by omega) (by omega)) MW_X3_blockOf 4 (by decide) (by first | assumption | omega) wd_789 wd_790 wd_791 (by decide +kernel) [] rfl rfl (by decide) (Nat.le_of_ble_eq_true rfl) (by decide) (kV ?_)
  refine jblk hF [(.iconst 1, 1), (.iadd, 1)] (by decide +kernel) (pc' := 12) (lo' := [(0, (2, p))]) (st' := [(0, (((mem p 2) - 1) / mem p 7) + 1)]) rfl ?_
  refine jiret hF hr (by decide +kernel) ?_
  exact lV (by omega)
set_option maxHeartbeats 4000000 in
set_option maxRecDepth 100000 in
theorem c_X3_hasLine {l : Launch} {g : GP} (hG : GH g) {kd : Int → Nat} {ln : Int → Int} {mem : Int → Int → Int} {sz : Nat} (p : Int) (n : Int) (hkp : kd p = 5) (hp0 : 0 ≤ p) (hi : 0 ≤ mem p 2 ∧ mem p 2 ≤ 40) (h_n : InI n) : MT l g yX3_hasLine cX3_hasLine 2 (some .boolean) 1 0 0 [(2, p), (0, n)] kd ln mem sz (pB (0 ≤ n ∧ n ≤ mem p 2 - 1) kd ln mem sz) := by
  refine MT_of hG (by decide +kernel) (Nat.le_of_ble_eq_true rfl) (fun z hF hr hn => ?_)
  refine jblk hF [(.iload_n 1, 1), (.iconst 0, 1), (.aload_n 0, 1)] (by decide +kernel) (pc' := 3) (lo' := [(0, (2, p)), (1, (0, n))]) (st' := [(2, p), (0, 0), (0, n)]) rfl ?_
  refine jget hF 4 2 0 2 rfl (by decide) (by decide) rfl wd_696 (by decide +kernel) (by first | assumption | omega) ?_
  refine jblk hF [(.iconst 1, 1), (.isub, 1)] (by decide +kernel) (pc' := 8) (lo' := [(0, (2, p)), (1, (0, n))]) (st' := [(0, (mem p 2) - 1), (0, 0), (0, n)]) rfl ?_
  refine jcallSN hF (c_X11_within hG n 0 ((mem p 2) - 1) (by omega) (by decide) (by omega)) MW_X11_within wd_780 wd_392 (by decide +kernel) [] rfl rfl (by decide) (Nat.le_of_ble_eq_true rfl) (by decide) (kB (fun h_1 => ?_) (fun h_1 => ?_))
  · refine jzret hF hr (by omega) (by decide +kernel) ?_
    exact lB1 (by omega)
  · refine jzret hF hr (by omega) (by decide +kernel) ?_
    exact lB0 (by omega)
set_option maxHeartbeats 4000000 in
set_option maxRecDepth 100000 in
theorem c_X3_isMade {l : Launch} {g : GP} (hG : GH g) {kd : Int → Nat} {ln : Int → Int} {mem : Int → Int → Int} {sz : Nat} (p : Int) (n : Int) (hkp : kd p = 5) (hp0 : 0 ≤ p) (hPB : PB mem p) (hn1 : 0 ≤ n ∧ n < mem p 2) : MT l g yX3_isMade cX3_isMade 2 (some .boolean) 2 0 0 [(2, p), (0, n)] kd ln mem sz (pB (mem p 4 < n % mem p 7) kd ln mem sz) := by
  refine MT_of hG (by decide +kernel) (Nat.le_of_ble_eq_true rfl) (fun z hF hr hn => ?_)
  have ⟨b1, b2, b3, b4, b5, b6, b7, b8, b9, b10, b11, b12, b13, b14, b15, b16⟩ := hPB
  have hd1 := ediv_mul_bd n (mem p 7) (by omega)
  have hd2 := Int.mul_ediv_add_emod n (mem p 7)
  rw [Int.mul_comm] at hd2
  have hd3 := ediv_bd n (mem p 7) (by omega)
  have hmd := mdV_le hPB hn1
  have hmd2 := mdV_bd hPB (b := n / mem p 7) (by omega)
  refine jblk hF [(.iload_n 1, 1), (.aload_n 0, 1), (.aload_n 0, 1), (.iload_n 1, 1)] (by decide +kernel) (pc' := 4) (lo' := [(0, (2, p)), (1, (0, n))]) (st' := [(0, n), (2, p), (2, p), (0, n)]) rfl ?_
  refine jcallV hF (c_X3_blockOf hG p n (by first | assumption | omega) (by omega) (by omega) (by omega)) MW_X3_blockOf 4 (by decide) (by first | assumption | omega) wd_789 wd_790 wd_791 (by decide +kernel) [(2, p), (0, n)] rfl rfl (by decide) (Nat.le_of_ble_eq_true rfl) (by decide) (kV ?_)
  refine jcallV hF (c_X3_madeFrom hG p (n / mem p 7) (by first | assumption | omega) (by omega) (by assumption) (by omega)) MW_X3_madeFrom 4 (by decide) (by first | assumption | omega) wd_864 wd_823 wd_824 (by decide +kernel) [(0, n)] rfl rfl (by decide) (Nat.le_of_ble_eq_true rfl) (by decide) (kV ?_)
  refine jicmp_lt hF (off := 7) 17 (by decide +kernel) (by decide) (by omega) (by omega) (fun h_1 => ?_) (fun h_1 => ?_)
  · refine jblk hF [(.iconst 0, 1)] (by decide +kernel) (pc' := 18) (lo' := [(0, (2, p)), (1, (0, n))]) (st' := [(0, 0)]) rfl ?_
    refine jzret hF hr (by omega) (by decide +kernel) ?_
    exact lB0 (by omega)
  · refine jblk hF [(.iconst 1, 1)] (by decide +kernel) (pc' := 14) (lo' := [(0, (2, p)), (1, (0, n))]) (st' := [(0, 1)]) rfl ?_
    refine jgoto hF (off := 4) 18 (by decide +kernel) (by decide) ?_
    refine jzret hF hr (by omega) (by decide +kernel) ?_
    exact lB1 (by omega)
set_option maxHeartbeats 4000000 in
set_option maxRecDepth 100000 in
theorem c_X3_hasColumn {l : Launch} {g : GP} (hG : GH g) {kd : Int → Nat} {ln : Int → Int} {mem : Int → Int → Int} {sz : Nat} (p : Int) (n k : Int) (hkp : kd p = 5) (hp0 : 0 ≤ p) (hPB : PB mem p) (hn1 : 0 ≤ n ∧ n < mem p 2) (h_k : InI k) : MT l g yX3_hasColumn cX3_hasColumn 4 (some .boolean) 1 0 0 [(2, p), (0, n), (0, k)] kd ln mem sz (pB (k = 9 ∨ (mem p 4 ≤ n % mem p 7 ∧ 0 ≤ k ∧ k ≤ mem p 4)) kd ln mem sz) := by
  refine MT_of hG (by decide +kernel) (Nat.le_of_ble_eq_true rfl) (fun z hF hr hn => ?_)
  have ⟨b1, b2, b3, b4, b5, b6, b7, b8, b9, b10, b11, b12, b13, b14, b15, b16⟩ := hPB
  have hd1 := ediv_mul_bd n (mem p 7) (by omega)
  have hd2 := Int.mul_ediv_add_emod n (mem p 7)
  rw [Int.mul_comm] at hd2
  have hd3 := ediv_bd n (mem p 7) (by omega)
  refine jblk hF [(.iload_n 1, 1), (.aload_n 0, 1), (.aload_n 0, 1), (.iload_n 1, 1)] (by decide +kernel) (pc' := 4) (lo' := [(0, (2, p)), (1, (0, n)), (2, (0, k))]) (st' := [(0, n), (2, p), (2, p), (0, n)]) rfl ?_
  refine jcallV hF (c_X3_blockOf hG p n (by first | assumption | omega) (by omega) (by omega) (by omega)) MW_X3_blockOf 4 (by decide) (by first | assumption | omega) wd_789 wd_790 wd_791 (by decide +kernel) [(2, p), (0, n)] rfl rfl (by decide) (Nat.le_of_ble_eq_true rfl) (by decide) (kV ?_)
  refine jcallV hF (c_X3_startOf hG p (n / mem p 7) (by first | assumption | omega) (by omega) (by omega) (by omega)) MW_X3_startOf 4 (by decide) (by first | assumption | omega) wd_830 wd_831 wd_832 (by decide +kernel) [(0, n)] rfl rfl (by decide) (Nat.le_of_ble_eq_true rfl) (by decide) (kV ?_)
  refine jblk hF [(.isub, 1), (.aload_n 0, 1)] (by decide +kernel) (pc' := 12) (lo' := [(0, (2, p)), (1, (0, n)), (2, (0, k))]) (st' := [(2, p), (0, n - ((n / mem p 7) * mem p 7))]) rfl ?_
  refine jget hF 4 4 0 4 rfl (by decide) (by decide) rfl wd_700 (by decide +kernel) (by first | assumption | omega) ?_
  refine jicmp_lt hF (off := 7) 22 (by decide +kernel) (by decide) (by omega) (by omega) (fun h_1 => ?_) (fun h_1 => ?_)
  · refine jblk hF [(.iconst 0, 1), (.istore_n 3, 1), (.iload_n 2, 1), (.bipush 9, 2)] (by decide +kernel) (pc' := 27) (lo' := [(3, (0, 0)), (0, (2, p)), (1, (0, n)), (2, (0, k))]) (st' := [(0, 9), (0, k)]) rfl ?_
    refine jicmp_eq hF (off := 19) 46 (by decide +kernel) (by decide) (by omega) (by decide) (fun h_2 => ?_) (fun h_2 => ?_)
    · refine jblk hF [(.iconst 1, 1)] (by decide +kernel) (pc' := 47) (lo' := [(3, (0, 0)), (0, (2, p)), (1, (0, n)), (2, (0, k))]) (st' := [(0, 1)]) rfl ?_
      refine jgoto hF (off := 4) 51 (by decide +kernel) (by decide) ?_
      refine jzret hF hr (by omega) (by decide +kernel) ?_
      exact lB1 (by omega)
    · refine jblk hF [(.iload_n 3, 1)] (by decide +kernel) (pc' := 31) (lo' := [(3, (0, 0)), (0, (2, p)), (1, (0, n)), (2, (0, k))]) (st' := [(0, 0)]) rfl ?_
      refine jif_eq hF (off := 19) 50 (by decide +kernel) (by decide) (by decide) (fun _ => ?_) (fun h => absurd h (by decide))
      refine jblk hF [(.iconst 0, 1)] (by decide +kernel) (pc' := 51) (lo' := [(3, (0, 0)), (0, (2, p)), (1, (0, n)), (2, (0, k))]) (st' := [(0, 0)]) rfl ?_
      refine jzret hF hr (by omega) (by decide +kernel) ?_
      exact lB0 (by omega)
  · refine jblk hF [(.iconst 1, 1)] (by decide +kernel) (pc' := 19) (lo' := [(0, (2, p)), (1, (0, n)), (2, (0, k))]) (st' := [(0, 1)]) rfl ?_
    refine jgoto hF (off := 4) 23 (by decide +kernel) (by decide) ?_
    refine jblk hF [(.istore_n 3, 1), (.iload_n 2, 1), (.bipush 9, 2)] (by decide +kernel) (pc' := 27) (lo' := [(3, (0, 1)), (0, (2, p)), (1, (0, n)), (2, (0, k))]) (st' := [(0, 9), (0, k)]) rfl ?_
    refine jicmp_eq hF (off := 19) 46 (by decide +kernel) (by decide) (by omega) (by decide) (fun h_4 => ?_) (fun h_4 => ?_)
    · refine jblk hF [(.iconst 1, 1)] (by decide +kernel) (pc' := 47) (lo' := [(3, (0, 1)), (0, (2, p)), (1, (0, n)), (2, (0, k))]) (st' := [(0, 1)]) rfl ?_
      refine jgoto hF (off := 4) 51 (by decide +kernel) (by decide) ?_
      refine jzret hF hr (by omega) (by decide +kernel) ?_
      exact lB1 (by omega)
    · refine jblk hF [(.iload_n 3, 1)] (by decide +kernel) (pc' := 31) (lo' := [(3, (0, 1)), (0, (2, p)), (1, (0, n)), (2, (0, k))]) (st' := [(0, 1)]) rfl ?_
      refine jif_eq hF (off := 19) 50 (by decide +kernel) (by decide) (by decide) (fun h => absurd h (by decide)) (fun _ => ?_)
      refine jblk hF [(.iload_n 2, 1), (.iconst 0, 1), (.aload_n 0, 1)] (by decide +kernel) (pc' := 37) (lo' := [(3, (0, 1)), (0, (2, p)), (1, (0, n)), (2, (0, k))]) (st' := [(2, p), (0, 0), (0, k)]) rfl ?_
      refine jget hF 4 4 0 4 rfl (by decide) (by decide) rfl wd_700 (by decide +kernel) (by first | assumption | omega) ?_
      refine jcallSN hF (c_X11_within hG k 0 (mem p 4) (by omega) (by decide) (by omega)) MW_X11_within wd_780 wd_392 (by decide +kernel) [] rfl rfl (by decide) (Nat.le_of_ble_eq_true rfl) (by decide) (kB (fun h_6 => ?_) (fun h_6 => ?_))
      · refine jif_eq hF (off := 7) 50 (by decide +kernel) (by decide) (by decide) (fun h => absurd h (by decide)) (fun _ => ?_)
        refine jblk hF [(.iconst 1, 1)] (by decide +kernel) (pc' := 47) (lo' := [(3, (0, 1)), (0, (2, p)), (1, (0, n)), (2, (0, k))]) (st' := [(0, 1)]) rfl ?_
        refine jgoto hF (off := 4) 51 (by decide +kernel) (by decide) ?_
        refine jzret hF hr (by omega) (by decide +kernel) ?_
        exact lB1 (by omega)
      · refine jif_eq hF (off := 7) 50 (by decide +kernel) (by decide) (by decide) (fun _ => ?_) (fun h => absurd h (by decide))
        refine jblk hF [(.iconst 0, 1)] (by decide +kernel) (pc' := 51) (lo' := [(3, (0, 1)), (0, (2, p)), (1, (0, n)), (2, (0, k))]) (st' := [(0, 0)]) rfl ?_
        refine jzret hF hr (by omega) (by decide +kernel) ?_
        exact lB0 (by omega)
set_option maxHeartbeats 4000000 in
set_option maxRecDepth 100000 in
theorem c_X3_canSlip {l : Launch} {g : GP} (hG : GH g) {kd : Int → Nat} {ln : Int → Int} {mem : Int → Int → Int} {sz : Nat} (p : Int) (n k : Int) (hkp : kd p = 5) (hp0 : 0 ≤ p) (hPB : PB mem p) (hn1 : 0 ≤ n ∧ n < mem p 2) (h_k : InI k) : MT l g yX3_canSlip cX3_canSlip 3 (some .boolean) 3 0 0 [(2, p), (0, n), (0, k)] kd ln mem sz (pB (mem p 4 < n % mem p 7 ∧ (k = 9 ∨ (0 ≤ k ∧ k ≤ mem p 4 - 1))) kd ln mem sz) := by
  refine MT_of hG (by decide +kernel) (Nat.le_of_ble_eq_true rfl) (fun z hF hr hn => ?_)
  have ⟨b1, b2, b3, b4, b5, b6, b7, b8, b9, b10, b11, b12, b13, b14, b15, b16⟩ := hPB
  refine jblk hF [(.aload_n 0, 1), (.iload_n 1, 1)] (by decide +kernel) (pc' := 2) (lo' := [(0, (2, p)), (1, (0, n)), (2, (0, k))]) (st' := [(0, n), (2, p)]) rfl ?_
  refine jcallV hF (c_X3_isMade hG p n (by first | assumption | omega) (by omega) (by assumption) (by omega)) MW_X3_isMade 4 (by decide) (by first | assumption | omega) wd_889 wd_890 wd_891 (by decide +kernel) [] rfl rfl (by decide) (Nat.le_of_ble_eq_true rfl) (by decide) (kB (fun h_1 => ?_) (fun h_1 => ?_))
  · refine jif_eq hF (off := 27) 32 (by decide +kernel) (by decide) (by decide) (fun h => absurd h (by decide)) (fun _ => ?_)
    refine jblk hF [(.iload_n 2, 1), (.bipush 9, 2)] (by decide +kernel) (pc' := 11) (lo' := [(0, (2, p)), (1, (0, n)), (2, (0, k))]) (st' := [(0, 9), (0, k)]) rfl ?_
    refine jicmp_eq hF (off := 17) 28 (by decide +kernel) (by decide) (by omega) (by decide) (fun h_3 => ?_) (fun h_3 => ?_)
    · refine jblk hF [(.iconst 1, 1)] (by decide +kernel) (pc' := 29) (lo' := [(0, (2, p)), (1, (0, n)), (2, (0, k))]) (st' := [(0, 1)]) rfl ?_
      refine jgoto hF (off := 4) 33 (by decide +kernel) (by decide) ?_
      refine jzret hF hr (by omega) (by decide +kernel) ?_
      exact lB1 (by omega)
    · refine jblk hF [(.iload_n 2, 1), (.iconst 0, 1), (.aload_n 0, 1)] (by decide +kernel) (pc' := 17) (lo' := [(0, (2, p)), (1, (0, n)), (2, (0, k))]) (st' := [(2, p), (0, 0), (0, k)]) rfl ?_
      refine jget hF 4 4 0 4 rfl (by decide) (by decide) rfl wd_700 (by decide +kernel) (by first | assumption | omega) ?_
      refine jblk hF [(.iconst 1, 1), (.isub, 1)] (by decide +kernel) (pc' := 22) (lo' := [(0, (2, p)), (1, (0, n)), (2, (0, k))]) (st' := [(0, (mem p 4) - 1), (0, 0), (0, k)]) rfl ?_
      refine jcallSN hF (c_X11_within hG k 0 ((mem p 4) - 1) (by omega) (by decide) (by omega)) MW_X11_within wd_780 wd_392 (by decide +kernel) [] rfl rfl (by decide) (Nat.le_of_ble_eq_true rfl) (by decide) (kB (fun h_4 => ?_) (fun h_4 => ?_))
      · refine jif_eq hF (off := 7) 32 (by decide +kernel) (by decide) (by decide) (fun h => absurd h (by decide)) (fun _ => ?_)
        refine jblk hF [(.iconst 1, 1)] (by decide +kernel) (pc' := 29) (lo' := [(0, (2, p)), (1, (0, n)), (2, (0, k))]) (st' := [(0, 1)]) rfl ?_
        refine jgoto hF (off := 4) 33 (by decide +kernel) (by decide) ?_
        refine jzret hF hr (by omega) (by decide +kernel) ?_
        exact lB1 (by omega)
      · refine jif_eq hF (off := 7) 32 (by decide +kernel) (by decide) (by decide) (fun _ => ?_) (fun h => absurd h (by decide))
        refine jblk hF [(.iconst 0, 1)] (by decide +kernel) (pc' := 33) (lo' := [(0, (2, p)), (1, (0, n)), (2, (0, k))]) (st' := [(0, 0)]) rfl ?_
        refine jzret hF hr (by omega) (by decide +kernel) ?_
        exact lB0 (by omega)
  · refine jif_eq hF (off := 27) 32 (by decide +kernel) (by decide) (by decide) (fun _ => ?_) (fun h => absurd h (by decide))
    refine jblk hF [(.iconst 0, 1)] (by decide +kernel) (pc' := 33) (lo' := [(0, (2, p)), (1, (0, n)), (2, (0, k))]) (st' := [(0, 0)]) rfl ?_
    refine jzret hF hr (by omega) (by decide +kernel) ?_
    exact lB0 (by omega)
end
