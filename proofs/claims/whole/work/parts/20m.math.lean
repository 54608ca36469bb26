section
set_option maxHeartbeats 4000000 in
set_option maxRecDepth 100000 in
theorem c_J9_floorDiv_f86c9 {l : Launch} {g : GP} (hG : GH g) {kd : Int → Nat} {ln : Int → Int} {mem : Int → Int → Int} {sz : Nat} (x y : Int) (hx : InL x) (hy : 1 ≤ y ∧ y ≤ 4611686018427387904) : MT l g yJ9_floorDiv_f86c9 cJ9_floorDiv_f86c9 6 (some .long) 0 0 0 [(1, x), (1, y)] kd ln mem sz (pV (1, x / y) kd ln mem sz) := by
  refine MT_ofF hG (by decide +kernel) (Nat.le_of_ble_eq_true rfl) (fun z hF hr hn => ?_)
  refine jblk hF [(.lload_n 0, 1), (.lload_n 2, 1)] (by decide +kernel) (pc' := 2) (lo' := [(0, (1, x)), (2, (1, y))]) (st' := [(1, y), (1, x)]) rfl ?_
  refine jldiv hF (by decide +kernel) (by omega) (by omega) (by omega) ?_
  refine jblk hF [(.lstore 4, 2)] (by decide +kernel) (pc' := 5) (lo' := [(4, (1, Int.tdiv x y)), (0, (1, x)), (2, (1, y))]) (st' := []) rfl ?_
  obtain ⟨e1, e2⟩ := fdiv_t x y (by omega)
  refine jblk hF [(.lload_n 0, 1), (.lload_n 2, 1), (.lxor, 1)] (by decide +kernel) (pc' := 8) (lo' := [(4, (1, Int.tdiv x y)), (0, (1, x)), (2, (1, y))]) (st' := [(1, flxor x y)]) rfl ?_
  have hs := flxor_sgn x y (by omega) (by omega) (by omega)
  have hi := flxor_in x y
  refine jlconst hF (n := 0) 0 rfl (by decide +kernel) ?_
  refine jlcmp_ge hF (off := 17) 27 (by decide +kernel) (by decide +kernel) (by decide) (by omega) (by decide) (fun h_1 => ?_) (fun h_1 => ?_)
  · refine jblk hF [(.lload 4, 2)] (by decide +kernel) (pc' := 29) (lo' := [(4, (1, Int.tdiv x y)), (0, (1, x)), (2, (1, y))]) (st' := [(1, Int.tdiv x y)]) rfl ?_
    refine jlret hF hr (by decide +kernel) ?_
    exact lV (by omega)
  · have e3 := tdiv_mul_bd x y (by omega) (by omega)
    refine jblk hF [(.lload 4, 2), (.lload_n 2, 1), (.lmul, 1), (.lload_n 0, 1)] (by decide +kernel) (pc' := 18) (lo' := [(4, (1, Int.tdiv x y)), (0, (1, x)), (2, (1, y))]) (st' := [(1, x), (1, (Int.tdiv x y) * y)]) rfl ?_
    refine jlcmp_eq hF (off := 8) 27 (by decide +kernel) (by decide +kernel) (by decide) (by omega) (by omega) (fun h_2 => ?_) (fun h_2 => ?_)
    · refine jblk hF [(.lload 4, 2)] (by decide +kernel) (pc' := 29) (lo' := [(4, (1, Int.tdiv x y)), (0, (1, x)), (2, (1, y))]) (st' := [(1, Int.tdiv x y)]) rfl ?_
      refine jlret hF hr (by decide +kernel) ?_
      exact lV (by omega)
    · refine jblk hF [(.lload 4, 2)] (by decide +kernel) (pc' := 24) (lo' := [(4, (1, Int.tdiv x y)), (0, (1, x)), (2, (1, y))]) (st' := [(1, Int.tdiv x y)]) rfl ?_
      refine jlconst hF (n := 1) 1 rfl (by decide +kernel) ?_
      refine jblk hF [(.lsub, 1)] (by decide +kernel) (pc' := 26) (lo' := [(4, (1, Int.tdiv x y)), (0, (1, x)), (2, (1, y))]) (st' := [(1, (Int.tdiv x y) - 1)]) rfl ?_
      refine jlret hF hr (by decide +kernel) ?_
      exact lV (by omega)
set_option maxHeartbeats 4000000 in
set_option maxRecDepth 100000 in
theorem c_J9_floorMod_f86c9 {l : Launch} {g : GP} (hG : GH g) {kd : Int → Nat} {ln : Int → Int} {mem : Int → Int → Int} {sz : Nat} (x y : Int) (hx : InL x) (hy : 1 ≤ y ∧ y ≤ 4611686018427387904) : MT l g yJ9_floorMod_f86c9 cJ9_floorMod_f86c9 6 (some .long) 0 0 0 [(1, x), (1, y)] kd ln mem sz (pV (1, x % y) kd ln mem sz) := by
  refine MT_ofF hG (by decide +kernel) (Nat.le_of_ble_eq_true rfl) (fun z hF hr hn => ?_)
  refine jblk hF [(.lload_n 0, 1), (.lload_n 2, 1)] (by decide +kernel) (pc' := 2) (lo' := [(0, (1, x)), (2, (1, y))]) (st' := [(1, y), (1, x)]) rfl ?_
  refine jlrem hF (by decide +kernel) (by omega) (by omega) (by omega) ?_
  refine jblk hF [(.lstore 4, 2)] (by decide +kernel) (pc' := 5) (lo' := [(4, (1, Int.tmod x y)), (0, (1, x)), (2, (1, y))]) (st' := []) rfl ?_
  obtain ⟨e1, e2⟩ := fmod_t x y (by omega)
  refine jblk hF [(.lload_n 0, 1), (.lload_n 2, 1), (.lxor, 1)] (by decide +kernel) (pc' := 8) (lo' := [(4, (1, Int.tmod x y)), (0, (1, x)), (2, (1, y))]) (st' := [(1, flxor x y)]) rfl ?_
  have hs := flxor_sgn x y (by omega) (by omega) (by omega)
  have hi := flxor_in x y
  refine jlconst hF (n := 0) 0 rfl (by decide +kernel) ?_
  refine jlcmp_ge hF (off := 15) 25 (by decide +kernel) (by decide +kernel) (by decide) (by omega) (by decide) (fun h_1 => ?_) (fun h_1 => ?_)
  · refine jblk hF [(.lload 4, 2)] (by decide +kernel) (pc' := 27) (lo' := [(4, (1, Int.tmod x y)), (0, (1, x)), (2, (1, y))]) (st' := [(1, Int.tmod x y)]) rfl ?_
    refine jlret hF hr (by decide +kernel) ?_
    exact lV (by omega)
  · refine jblk hF [(.lload 4, 2)] (by decide +kernel) (pc' := 15) (lo' := [(4, (1, Int.tmod x y)), (0, (1, x)), (2, (1, y))]) (st' := [(1, Int.tmod x y)]) rfl ?_
    refine jlconst hF (n := 0) 0 rfl (by decide +kernel) ?_
    refine jlcmp_eq hF (off := 8) 25 (by decide +kernel) (by decide +kernel) (by decide) (by omega) (by decide) (fun h_2 => ?_) (fun h_2 => ?_)
    · refine jblk hF [(.lload 4, 2)] (by decide +kernel) (pc' := 27) (lo' := [(4, (1, Int.tmod x y)), (0, (1, x)), (2, (1, y))]) (st' := [(1, Int.tmod x y)]) rfl ?_
      refine jlret hF hr (by decide +kernel) ?_
      exact lV (by omega)
    · refine jblk hF [(.lload 4, 2), (.lload_n 2, 1), (.ladd, 1)] (by decide +kernel) (pc' := 24) (lo' := [(4, (1, Int.tmod x y)), (0, (1, x)), (2, (1, y))]) (st' := [(1, (Int.tmod x y) + y)]) rfl ?_
      refine jlret hF hr (by decide +kernel) ?_
      exact lV (by omega)
set_option maxHeartbeats 4000000 in
set_option maxRecDepth 100000 in
theorem c_J9_abs_067f4 {l : Launch} {g : GP} (hG : GH g) {kd : Int → Nat} {ln : Int → Int} {mem : Int → Int → Int} {sz : Nat} (x : Int) (hx : -9000000000000000000 ≤ x ∧ x ≤ 9000000000000000000) : MT l g yJ9_abs_067f4 cJ9_abs_067f4 2 (some .long) 0 0 0 [(1, x)] kd ln mem sz (pV (1, if x < 0 then -x else x) kd ln mem sz) := by
  refine MT_ofF hG (by decide +kernel) (Nat.le_of_ble_eq_true rfl) (fun z hF hr hn => ?_)
  refine jblk hF [(.lload_n 0, 1)] (by decide +kernel) (pc' := 1) (lo' := [(0, (1, x))]) (st' := [(1, x)]) rfl ?_
  refine jlconst hF (n := 0) 0 rfl (by decide +kernel) ?_
  refine jlcmp_ge hF (off := 8) 11 (by decide +kernel) (by decide +kernel) (by decide) (by omega) (by decide) (fun h_1 => ?_) (fun h_1 => ?_)
  · refine jblk hF [(.lload_n 0, 1)] (by decide +kernel) (pc' := 12) (lo' := [(0, (1, x))]) (st' := [(1, x)]) rfl ?_
    refine jlret hF hr (by decide +kernel) ?_
    exact lV (by first | exact (if_pos (by omega)).symm | exact (if_neg (by omega)).symm)
  · refine jblk hF [(.lload_n 0, 1), (.lneg, 1)] (by decide +kernel) (pc' := 8) (lo' := [(0, (1, x))]) (st' := [(1, -x)]) rfl ?_
    refine jgoto hF (off := 4) 12 (by decide +kernel) (by decide) ?_
    refine jlret hF hr (by decide +kernel) ?_
    exact lV (by first | exact (if_pos (by omega)).symm | exact (if_neg (by omega)).symm)
set_option maxHeartbeats 4000000 in
set_option maxRecDepth 100000 in
theorem c_J9_max_7cf53 {l : Launch} {g : GP} (hG : GH g) {kd : Int → Nat} {ln : Int → Int} {mem : Int → Int → Int} {sz : Nat} (a b : Int) (h_a : InI a) (h_b : InI b) : MT l g yJ9_max_7cf53 cJ9_max_7cf53 2 (some .int) 0 0 0 [(0, a), (0, b)] kd ln mem sz (pV (0, if a < b then b else a) kd ln mem sz) := by
  refine MT_ofF hG (by decide +kernel) (Nat.le_of_ble_eq_true rfl) (fun z hF hr hn => ?_)
  refine jblk hF [(.iload_n 0, 1), (.iload_n 1, 1)] (by decide +kernel) (pc' := 2) (lo' := [(0, (0, a)), (1, (0, b))]) (st' := [(0, b), (0, a)]) rfl ?_
  refine jicmp_lt hF (off := 7) 9 (by decide +kernel) (by decide) (by omega) (by omega) (fun h_1 => ?_) (fun h_1 => ?_)
  · refine jblk hF [(.iload_n 1, 1)] (by decide +kernel) (pc' := 10) (lo' := [(0, (0, a)), (1, (0, b))]) (st' := [(0, b)]) rfl ?_
    refine jiret hF hr (by decide +kernel) ?_
    exact lV (by split <;> omega)
  · refine jblk hF [(.iload_n 0, 1)] (by decide +kernel) (pc' := 6) (lo' := [(0, (0, a)), (1, (0, b))]) (st' := [(0, a)]) rfl ?_
    refine jgoto hF (off := 4) 10 (by decide +kernel) (by decide) ?_
    refine jiret hF hr (by decide +kernel) ?_
    exact lV (by split <;> omega)
set_option maxHeartbeats 4000000 in
set_option maxRecDepth 100000 in
theorem c_J9_min_7cf53 {l : Launch} {g : GP} (hG : GH g) {kd : Int → Nat} {ln : Int → Int} {mem : Int → Int → Int} {sz : Nat} (a b : Int) (h_a : InI a) (h_b : InI b) : MT l g yJ9_min_7cf53 cJ9_min_7cf53 2 (some .int) 0 0 0 [(0, a), (0, b)] kd ln mem sz (pV (0, if b < a then b else a) kd ln mem sz) := by
  refine MT_ofF hG (by decide +kernel) (Nat.le_of_ble_eq_true rfl) (fun z hF hr hn => ?_)
  refine jblk hF [(.iload_n 0, 1), (.iload_n 1, 1)] (by decide +kernel) (pc' := 2) (lo' := [(0, (0, a)), (1, (0, b))]) (st' := [(0, b), (0, a)]) rfl ?_
  refine jicmp_gt hF (off := 7) 9 (by decide +kernel) (by decide) (by omega) (by omega) (fun h_1 => ?_) (fun h_1 => ?_)
  · refine jblk hF [(.iload_n 1, 1)] (by decide +kernel) (pc' := 10) (lo' := [(0, (0, a)), (1, (0, b))]) (st' := [(0, b)]) rfl ?_
    refine jiret hF hr (by decide +kernel) ?_
    exact lV (by split <;> omega)
  · refine jblk hF [(.iload_n 0, 1)] (by decide +kernel) (pc' := 6) (lo' := [(0, (0, a)), (1, (0, b))]) (st' := [(0, a)]) rfl ?_
    refine jgoto hF (off := 4) 10 (by decide +kernel) (by decide) ?_
    refine jiret hF hr (by decide +kernel) ?_
    exact lV (by split <;> omega)
set_option maxHeartbeats 4000000 in
set_option maxRecDepth 100000 in
theorem c_J9_max_f86c9 {l : Launch} {g : GP} (hG : GH g) {kd : Int → Nat} {ln : Int → Int} {mem : Int → Int → Int} {sz : Nat} (a b : Int) (h_a : InL a) (h_b : InL b) : MT l g yJ9_max_f86c9 cJ9_max_f86c9 4 (some .long) 0 0 0 [(1, a), (1, b)] kd ln mem sz (pV (1, if a < b then b else a) kd ln mem sz) := by
  refine MT_ofF hG (by decide +kernel) (Nat.le_of_ble_eq_true rfl) (fun z hF hr hn => ?_)
  refine jblk hF [(.lload_n 0, 1), (.lload_n 2, 1)] (by decide +kernel) (pc' := 2) (lo' := [(0, (1, a)), (2, (1, b))]) (st' := [(1, b), (1, a)]) rfl ?_
  refine jlcmp_lt hF (off := 7) 10 (by decide +kernel) (by decide +kernel) (by decide) (by omega) (by omega) (fun h_1 => ?_) (fun h_1 => ?_)
  · refine jblk hF [(.lload_n 2, 1)] (by decide +kernel) (pc' := 11) (lo' := [(0, (1, a)), (2, (1, b))]) (st' := [(1, b)]) rfl ?_
    refine jlret hF hr (by decide +kernel) ?_
    exact lV (by split <;> omega)
  · refine jblk hF [(.lload_n 0, 1)] (by decide +kernel) (pc' := 7) (lo' := [(0, (1, a)), (2, (1, b))]) (st' := [(1, a)]) rfl ?_
    refine jgoto hF (off := 4) 11 (by decide +kernel) (by decide) ?_
    refine jlret hF hr (by decide +kernel) ?_
    exact lV (by split <;> omega)
set_option maxHeartbeats 4000000 in
set_option maxRecDepth 100000 in
theorem c_J9_min_f86c9 {l : Launch} {g : GP} (hG : GH g) {kd : Int → Nat} {ln : Int → Int} {mem : Int → Int → Int} {sz : Nat} (a b : Int) (h_a : InL a) (h_b : InL b) : MT l g yJ9_min_f86c9 cJ9_min_f86c9 4 (some .long) 0 0 0 [(1, a), (1, b)] kd ln mem sz (pV (1, if b < a then b else a) kd ln mem sz) := by
  refine MT_ofF hG (by decide +kernel) (Nat.le_of_ble_eq_true rfl) (fun z hF hr hn => ?_)
  refine jblk hF [(.lload_n 0, 1), (.lload_n 2, 1)] (by decide +kernel) (pc' := 2) (lo' := [(0, (1, a)), (2, (1, b))]) (st' := [(1, b), (1, a)]) rfl ?_
  refine jlcmp_gt hF (off := 7) 10 (by decide +kernel) (by decide +kernel) (by decide) (by omega) (by omega) (fun h_1 => ?_) (fun h_1 => ?_)
  · refine jblk hF [(.lload_n 2, 1)] (by decide +kernel) (pc' := 11) (lo' := [(0, (1, a)), (2, (1, b))]) (st' := [(1, b)]) rfl ?_
    refine jlret hF hr (by decide +kernel) ?_
    exact lV (by split <;> omega)
  · refine jblk hF [(.lload_n 0, 1)] (by decide +kernel) (pc' := 7) (lo' := [(0, (1, a)), (2, (1, b))]) (st' := [(1, a)]) rfl ?_
    refine jgoto hF (off := 4) 11 (by decide +kernel) (by decide) ?_
    refine jlret hF hr (by decide +kernel) ?_
    exact lV (by split <;> omega)
end
