section
set_option maxHeartbeats 4000000 in
set_option maxRecDepth 100000 in
theorem c_J3_checkIndex_8e157 {l : Launch} {g : GP} (hG : GH g) {kd : Int → Nat} {ln : Int → Int} {mem : Int → Int → Int} {sz : Nat} (i n f : Int) (hi : 0 ≤ i ∧ i < n) (hn1 : n ≤ 2147483647) : MT l g yJ3_checkIndex_8e157 cJ3_checkIndex_8e157 3 (some .int) 0 0 0 [(0, i), (0, n), (2, f)] kd ln mem sz (pV (0, i) kd ln mem sz) := by
  refine MT_of hG (by decide +kernel) (Nat.le_of_ble_eq_true rfl) (fun z hF hr hn => ?_)
  refine jblk hF [(.iload_n 0, 1)] (by decide +kernel) (pc' := 1) (lo' := [(0, (0, i)), (1, (0, n)), (2, (2, f))]) (st' := [(0, i)]) rfl ?_
  refine jif_lt hF (off := 8) 9 (by decide +kernel) (by decide) (by omega) (fun h_1 => ?_) (fun h_1 => ?_)
  · exfalso; omega
  · refine jblk hF [(.iload_n 0, 1), (.iload_n 1, 1)] (by decide +kernel) (pc' := 6) (lo' := [(0, (0, i)), (1, (0, n)), (2, (2, f))]) (st' := [(0, n), (0, i)]) rfl ?_
    refine jicmp_lt hF (off := 10) 16 (by decide +kernel) (by decide) (by omega) (by omega) (fun h_2 => ?_) (fun h_2 => ?_)
    · refine jblk hF [(.iload_n 0, 1)] (by decide +kernel) (pc' := 17) (lo' := [(0, (0, i)), (1, (0, n)), (2, (2, f))]) (st' := [(0, i)]) rfl ?_
      refine jiret hF hr (by decide +kernel) ?_
      exact lV (by omega)
    · exfalso; omega
set_option maxHeartbeats 4000000 in
set_option maxRecDepth 100000 in
theorem c_J15_checkIndex_7cf53 {l : Launch} {g : GP} (hG : GH g) {kd : Int → Nat} {ln : Int → Int} {mem : Int → Int → Int} {sz : Nat} (i n : Int) (hi : 0 ≤ i ∧ i < n) (hn1 : n ≤ 2147483647) : MT l g yJ15_checkIndex_7cf53 cJ15_checkIndex_7cf53 2 (some .int) 1 0 0 [(0, i), (0, n)] kd ln mem sz (pV (0, i) kd ln mem sz) := by
  refine MT_of hG (by decide +kernel) (Nat.le_of_ble_eq_true rfl) (fun z hF hr hn => ?_)
  refine jblk hF [(.iload_n 0, 1), (.iload_n 1, 1), (.aconst_null, 1)] (by decide +kernel) (pc' := 3) (lo' := [(0, (0, i)), (1, (0, n))]) (st' := [(2, (-1)), (0, n), (0, i)]) rfl ?_
  refine jcallS hF (c_J3_checkIndex_8e157 hG i n (-1) (by omega) (by omega)) MW_J3_checkIndex_8e157 wd_505 wd_506 (by decide +kernel) [] rfl rfl (by decide) (Nat.le_of_ble_eq_true rfl) (by decide) (kV ?_)
  refine jiret hF hr (by decide +kernel) ?_
  exact lV (by omega)
set_option maxHeartbeats 4000000 in
set_option maxRecDepth 100000 in
theorem c_Jx4a65c_size_8abf5 {l : Launch} {g : GP} (hG : GH g) {kd : Int → Nat} {ln : Int → Int} {mem : Int → Int → Int} {sz : Nat} (a : Int) (hka : kd a = 1) : MT l g yJx4a65c_size_8abf5 cJx4a65c_size_8abf5 1 (some .int) 0 0 0 [(2, a)] kd ln mem sz (pV (0, mem a 2) kd ln mem sz) := by
  refine MT_of hG (by decide +kernel) (Nat.le_of_ble_eq_true rfl) (fun z hF hr hn => ?_)
  refine jblk hF [(.aload_n 0, 1)] (by decide +kernel) (pc' := 1) (lo' := [(0, (2, a))]) (st' := [(2, a)]) rfl ?_
  refine jget hF 0 2 0 2 rfl (by decide) (by decide) rfl wd_315 (by decide +kernel) (by first | assumption | omega) ?_
  refine jiret hF hr (by decide +kernel) ?_
  exact lV (by omega)
set_option maxHeartbeats 4000000 in
set_option maxRecDepth 100000 in
theorem c_Jx4a65c_elementData_915e3 {l : Launch} {g : GP} (hG : GH g) {kd : Int → Nat} {ln : Int → Int} {mem : Int → Int → Int} {sz : Nat} (a : Int) (i : Int) (hka : kd a = 1) (hkb : kd (mem a 1) = 23) (hi : 0 ≤ i ∧ i < ln (mem a 1)) : MT l g yJx4a65c_elementData_915e3 cJx4a65c_elementData_915e3 2 (some (.object "java/lang/Object")) 0 0 0 [(2, a), (0, i)] kd ln mem sz (pV (2, mem (mem a 1) i) kd ln mem sz) := by
  refine MT_of hG (by decide +kernel) (Nat.le_of_ble_eq_true rfl) (fun z hF hr hn => ?_)
  refine jblk hF [(.aload_n 0, 1)] (by decide +kernel) (pc' := 1) (lo' := [(0, (2, a)), (1, (0, i))]) (st' := [(2, a)]) rfl ?_
  refine jget hF 0 1 2 1 rfl (by decide) (by decide) rfl wd_314 (by decide +kernel) (by first | assumption | omega) ?_
  refine jblk hF [(.iload_n 1, 1)] (by decide +kernel) (pc' := 5) (lo' := [(0, (2, a)), (1, (0, i))]) (st' := [(0, i), (2, mem a 1)]) rfl ?_
  refine jaald hF (by decide +kernel) (by first | assumption | omega) (by omega) (by omega) ?_
  refine jaret hF hr (Or.inl ⟨_, rfl⟩) (by decide +kernel) ?_
  exact lV (by omega)
set_option maxHeartbeats 4000000 in
set_option maxRecDepth 100000 in
theorem c_Jx4a65c_get_915e3 {l : Launch} {g : GP} (hG : GH g) {kd : Int → Nat} {ln : Int → Int} {mem : Int → Int → Int} {sz : Nat} (a : Int) (i : Int) (hka : kd a = 1) (hkb : kd (mem a 1) = 23) (hi : 0 ≤ i ∧ i < mem a 2 ∧ mem a 2 ≤ ln (mem a 1) ∧ mem a 2 ≤ 1000) : MT l g yJx4a65c_get_915e3 cJx4a65c_get_915e3 2 (some (.object "java/lang/Object")) 2 0 0 [(2, a), (0, i)] kd ln mem sz (pV (2, mem (mem a 1) i) kd ln mem sz) := by
  refine MT_of hG (by decide +kernel) (Nat.le_of_ble_eq_true rfl) (fun z hF hr hn => ?_)
  refine jblk hF [(.iload_n 1, 1), (.aload_n 0, 1)] (by decide +kernel) (pc' := 2) (lo' := [(0, (2, a)), (1, (0, i))]) (st' := [(2, a), (0, i)]) rfl ?_
  refine jget hF 0 2 0 2 rfl (by decide) (by decide) rfl wd_315 (by decide +kernel) (by first | assumption | omega) ?_
  refine jcallS hF (c_J15_checkIndex_7cf53 hG i (mem a 2) (by omega) (by omega)) MW_J15_checkIndex_7cf53 wd_502 wd_503 (by decide +kernel) [] rfl rfl (by decide) (Nat.le_of_ble_eq_true rfl) (by decide) (kV ?_)
  refine jblk hF [(.pop, 1), (.aload_n 0, 1), (.iload_n 1, 1)] (by decide +kernel) (pc' := 11) (lo' := [(0, (2, a)), (1, (0, i))]) (st' := [(0, i), (2, a)]) rfl ?_
  refine jcallV hF (c_Jx4a65c_elementData_915e3 hG a i (by first | assumption | omega) (by first | assumption | omega) (by omega)) MW_Jx4a65c_elementData_915e3 0 (by decide) (by first | assumption | omega) wd_508 wd_509 wd_510 (by decide +kernel) [] rfl rfl (by decide) (Nat.le_of_ble_eq_true rfl) (by decide) (kV ?_)
  refine jaret hF hr (Or.inl ⟨_, rfl⟩) (by decide +kernel) ?_
  exact lV (by omega)
set_option maxHeartbeats 4000000 in
set_option maxRecDepth 100000 in
theorem c_J7_fill_d0a16 {l : Launch} {g : GP} (hG : GH g) {kd : Int → Nat} {ln : Int → Int} {mem : Int → Int → Int} {sz : Nat} (a v : Int) (hka : kd a = 21) (ha3 : 3 ≤ a) (hla : 0 ≤ ln a ∧ ln a ≤ 100000) : MT l g yJ7_fill_d0a16 cJ7_fill_d0a16 5 none 0 0 0 [(2, a), (1, v)] kd ln mem sz (pMV (fun mem' => (mem' = fillM mem a (ln a) v)) kd ln sz) := by
  refine MT_of hG (by decide +kernel) (Nat.le_of_ble_eq_true rfl) (fun z hF hr hn => ?_)
  refine jblk hF [(.iconst 0, 1), (.istore_n 3, 1), (.aload_n 0, 1)] (by decide +kernel) (pc' := 3) (lo' := [(3, (0, 0)), (0, (2, a)), (1, (1, v))]) (st' := [(2, a)]) rfl ?_
  refine jalen hF 1 (by decide) (by decide +kernel) (by first | assumption | omega) ?_
  refine jblk hF [(.istore 4, 2)] (by decide +kernel) (pc' := 6) (lo' := [(4, (0, ln a)), (3, (0, 0)), (0, (2, a)), (1, (1, v))]) (st' := []) rfl ?_
  have L_2 : ∀ (fu_3 : Nat) (i : Int) (m1 : Int → Int → Int), (m1 = fillM mem a i v) → (0 ≤ i ∧ i ≤ ln a) →  (ln a - i).toNat < fu_3 → J z g 5 0 0 (QM z g 0 0 (pMV (fun mem' => (mem' = fillM mem a (ln a) v)) kd ln sz)) 6 [(0, (2, a)), (1, (1, v)), (4, (0, ln a)), (3, (0, i))] [] kd ln m1 sz := by
    intro fu_3
    induction fu_3 with
    | zero => intro i m1 _ _ hm; omega
    | succ fu_3 ih_1 =>
      intro i m1 hm1 hi hm
      refine jblk hF [(.iload_n 3, 1), (.iload 4, 2)] (by decide +kernel) (pc' := 9) (lo' := [(0, (2, a)), (1, (1, v)), (4, (0, ln a)), (3, (0, i))]) (st' := [(0, ln a), (0, i)]) rfl ?_
      refine jicmp_ge hF (off := 13) 22 (by decide +kernel) (by decide) (by omega) (by omega) (fun h_4 => ?_) (fun h_4 => ?_)
      · refine jvret hF hr (by decide +kernel) ?_
        exact lMV (by rw [hm1, show i = ln a by omega])
      · refine jblk hF [(.aload_n 0, 1), (.iload_n 3, 1), (.lload_n 1, 1)] (by decide +kernel) (pc' := 15) (lo' := [(0, (2, a)), (1, (1, v)), (4, (0, ln a)), (3, (0, i))]) (st' := [(1, v), (0, i), (2, a)]) rfl ?_
        refine jlast hF (by decide +kernel) (by omega) (by first | assumption | omega) (by omega) (by omega) ?_
        refine jblk hF [(.iinc 3 1, 3)] (by decide +kernel) (pc' := 19) (lo' := [(3, (0, i + 1)), (0, (2, a)), (1, (1, v)), (4, (0, ln a))]) (st' := []) rfl ?_
        refine jgoto hF (off := (-13)) 6 (by decide +kernel) (by decide) ?_
        refine jsub [1, 2, 3, 0] rfl ?_
        refine ih_1 (i + 1) (set2 m1 a i v) ?_ ?_ ?_
        · rw [hm1, fillM_s (by omega)]
        · omega
        · omega
  refine jsub [2, 3, 0, 1] rfl ?_
  refine L_2 _ 0 mem ?_ ?_ (Nat.lt_succ_self _)
  · rw [fillM_0]
  · omega
set_option maxHeartbeats 4000000 in
set_option maxRecDepth 100000 in
theorem c_J7_fill_53178 {l : Launch} {g : GP} (hG : GH g) {kd : Int → Nat} {ln : Int → Int} {mem : Int → Int → Int} {sz : Nat} (a v : Int) (hka : kd a = 20) (ha3 : 3 ≤ a) (hla : 0 ≤ ln a ∧ ln a ≤ 100000) : MT l g yJ7_fill_53178 cJ7_fill_53178 4 none 0 0 0 [(2, a), (0, v)] kd ln mem sz (pMV (fun mem' => (mem' = fillM mem a (ln a) v)) kd ln sz) := by
  refine MT_of hG (by decide +kernel) (Nat.le_of_ble_eq_true rfl) (fun z hF hr hn => ?_)
  refine jblk hF [(.iconst 0, 1), (.istore_n 2, 1), (.aload_n 0, 1)] (by decide +kernel) (pc' := 3) (lo' := [(2, (0, 0)), (0, (2, a)), (1, (0, v))]) (st' := [(2, a)]) rfl ?_
  refine jalen hF 0 (by decide) (by decide +kernel) (by first | assumption | omega) ?_
  refine jblk hF [(.istore_n 3, 1)] (by decide +kernel) (pc' := 5) (lo' := [(3, (0, ln a)), (2, (0, 0)), (0, (2, a)), (1, (0, v))]) (st' := []) rfl ?_
  have L_2 : ∀ (fu_3 : Nat) (i : Int) (m1 : Int → Int → Int), (m1 = fillM mem a i v) → (0 ≤ i ∧ i ≤ ln a) →  (ln a - i).toNat < fu_3 → J z g 4 0 0 (QM z g 0 0 (pMV (fun mem' => (mem' = fillM mem a (ln a) v)) kd ln sz)) 5 [(0, (2, a)), (1, (0, v)), (3, (0, ln a)), (2, (0, i))] [] kd ln m1 sz := by
    intro fu_3
    induction fu_3 with
    | zero => intro i m1 _ _ hm; omega
    | succ fu_3 ih_1 =>
      intro i m1 hm1 hi hm
      refine jblk hF [(.iload_n 2, 1), (.iload_n 3, 1)] (by decide +kernel) (pc' := 7) (lo' := [(0, (2, a)), (1, (0, v)), (3, (0, ln a)), (2, (0, i))]) (st' := [(0, ln a), (0, i)]) rfl ?_
      refine jicmp_ge hF (off := 13) 20 (by decide +kernel) (by decide) (by omega) (by omega) (fun h_4 => ?_) (fun h_4 => ?_)
      · refine jvret hF hr (by decide +kernel) ?_
        exact lMV (by rw [hm1, show i = ln a by omega])
      · refine jblk hF [(.aload_n 0, 1), (.iload_n 2, 1), (.iload_n 1, 1)] (by decide +kernel) (pc' := 13) (lo' := [(0, (2, a)), (1, (0, v)), (3, (0, ln a)), (2, (0, i))]) (st' := [(0, v), (0, i), (2, a)]) rfl ?_
        refine jiast hF (by decide +kernel) (by omega) (by first | assumption | omega) (by omega) (by omega) ?_
        refine jblk hF [(.iinc 2 1, 3)] (by decide +kernel) (pc' := 17) (lo' := [(2, (0, i + 1)), (0, (2, a)), (1, (0, v)), (3, (0, ln a))]) (st' := []) rfl ?_
        refine jgoto hF (off := (-12)) 5 (by decide +kernel) (by decide) ?_
        refine jsub [1, 2, 3, 0] rfl ?_
        refine ih_1 (i + 1) (set2 m1 a i v) ?_ ?_ ?_
        · rw [hm1, fillM_s (by omega)]
        · omega
        · omega
  refine jsub [2, 3, 0, 1] rfl ?_
  refine L_2 _ 0 mem ?_ ?_ (Nat.lt_succ_self _)
  · rw [fillM_0]
  · omega
set_option maxHeartbeats 4000000 in
set_option maxRecDepth 100000 in
theorem c_J8_newLength_cabcc {l : Launch} {g : GP} (hG : GH g) {kd : Int → Nat} {ln : Int → Int} {mem : Int → Int → Int} {sz : Nat} (a b c : Int) (hb : 0 ≤ a ∧ a ≤ 10000 ∧ 1 ≤ b ∧ b ≤ 10000 ∧ 0 ≤ c ∧ c ≤ 10000) : MT l g yJ8_newLength_cabcc cJ8_newLength_cabcc 4 (some .int) 1 0 0 [(0, a), (0, b), (0, c)] kd ln mem sz (pV (0, a + (if b < c then c else b)) kd ln mem sz) := by
  refine MT_of hG (by decide +kernel) (Nat.le_of_ble_eq_true rfl) (fun z hF hr hn => ?_)
  refine jblk hF [(.iload_n 0, 1), (.iload_n 1, 1), (.iload_n 2, 1)] (by decide +kernel) (pc' := 3) (lo' := [(0, (0, a)), (1, (0, b)), (2, (0, c))]) (st' := [(0, c), (0, b), (0, a)]) rfl ?_
  refine jcallS hF (c_J9_max_7cf53 hG b c (by omega) (by omega)) MW_J9_max_7cf53 wd_449 wd_145 (by decide +kernel) [(0, a)] rfl rfl (by decide) (Nat.le_of_ble_eq_true rfl) (by decide) (kV ?_)
  refine jblk hF [(.iadd, 1), (.istore_n 3, 1), (.iconst 0, 1)] (by decide +kernel) (pc' := 9) (lo' := [(3, (0, a + (if b < c then c else b))), (0, (0, a)), (1, (0, b)), (2, (0, c))]) (st' := [(0, 0)]) rfl ?_
  have hmx : 1 ≤ (if b < c then c else b) ∧ (if b < c then c else b) ≤ 10000 := by split <;> omega
  refine jblk hF [(.iload_n 3, 1)] (by decide +kernel) (pc' := 10) (lo' := [(3, (0, a + (if b < c then c else b))), (0, (0, a)), (1, (0, b)), (2, (0, c))]) (st' := [(0, a + (if b < c then c else b)), (0, 0)]) rfl ?_
  refine jicmp_ge hF (off := 11) 21 (by decide +kernel) (by decide) (by decide) (by omega) (fun h_1 => ?_) (fun h_1 => ?_)
  · exfalso; (split at * <;> omega)
  · refine jblk hF [(.iload_n 3, 1)] (by decide +kernel) (pc' := 14) (lo' := [(3, (0, a + (if b < c then c else b))), (0, (0, a)), (1, (0, b)), (2, (0, c))]) (st' := [(0, a + (if b < c then c else b))]) rfl ?_
    refine jldc hF 2147483639 (cst_i wd_450 (by decide)) (by decide +kernel) ?_
    refine jicmp_gt hF (off := 5) 21 (by decide +kernel) (by decide) (by omega) (by decide) (fun h_2 => ?_) (fun h_2 => ?_)
    · exfalso; (split at * <;> omega)
    · refine jblk hF [(.iload_n 3, 1)] (by decide +kernel) (pc' := 20) (lo' := [(3, (0, a + (if b < c then c else b))), (0, (0, a)), (1, (0, b)), (2, (0, c))]) (st' := [(0, a + (if b < c then c else b))]) rfl ?_
      refine jiret hF hr (by decide +kernel) ?_
      exact lV (by omega)
set_option maxHeartbeats 4000000 in
set_option maxRecDepth 100000 in
theorem c_Jxa1e45_init_da8c8 {l : Launch} {g : GP} (hG : GH g) {kd : Int → Nat} {ln : Int → Int} {mem : Int → Int → Int} {sz : Nat} (a : Int) (ha : 0 ≤ a) : MT l g yJxa1e45_init_da8c8 cJxa1e45_init_da8c8 1 none 1 0 0 [(2, a)] kd ln mem sz (pMV (fun mem' => (mem' = mem)) kd ln sz) := by
  refine MT_of hG (by decide +kernel) (Nat.le_of_ble_eq_true rfl) (fun z hF hr hn => ?_)
  refine jblk hF [(.aload_n 0, 1)] (by decide +kernel) (pc' := 1) (lo' := [(0, (2, a))]) (st' := [(2, a)]) rfl ?_
  refine jobj hF (by omega) wd_311 wd_133 wd_objcode (by decide +kernel) (by decide) ?_
  refine jvret hF hr (by decide +kernel) ?_
  exact lMV (by rfl)
end
