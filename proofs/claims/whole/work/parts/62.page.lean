section
theorem qV_bd {s a b x : Int} (hab : AB a b) (hx : 1 ≤ x ∧ x ≤ 9999) : 0 ≤ qV s a b x ∧ qV s a b x ≤ 1000000000000000 := by
  have hax := mul_bd (a := a) (b := x) (M := 99) (N := 9999) (by omega) (by omega)
  have hxx := mul_bd (a := x) (b := x) (M := 9999) (N := 9999) (by omega) (by omega)
  unfold qV
  split
  · have hr := isq_bd2 (v := 4000000000000 * (a * x + b)) (by omega)
    unfold rootQ
    generalize isq (4000000000000 * (a * x + b)) = w at *
    split <;> omega
  · have hb := below_bd (s := s) (b := b) (x := x) (by omega) hx
    have ht : 0 ≤ topV s a b x ∧ topV s a b x ≤ 400000000000000 := by
      unfold topV
      split <;> omega
    have hd := (ediv_bd (topV s a b x) (belowV s b x) hb.1).1 ht.1
    unfold divQ
    generalize topV s a b x / belowV s b x = w at *
    split <;> omega
theorem unit_bd {p : Int} (h : 0 ≤ p ∧ p ≤ 6) : 1 ≤ 4 * (10 : Int) ^ (6 - p).toNat ∧ 4 * (10 : Int) ^ (6 - p).toNat ≤ 4000000 := by
  have := ten_bd (p := 6 - p) (by omega)
  omega
/-- what a page's reckoning leaves -/
def RCK (mem mm : Int → Int → Int) (p cv n : Int) : Prop := (∀ b j : Int, b ≠ mem p 13 → b ≠ mem p 15 → mm b j = mem b j) ∧ ∀ j : Int, 0 ≤ j → j < n → mm (mem p 13) j = nearBy (qV (mem cv 0) (mem cv 1) (mem cv 2) (mem p 1 + j * mem p 3)) (4 * 10 ^ (6 - (mem p 5 + mem p 6)).toNat) 0 ∧ mm (mem p 15) j = nearBy (qV (mem cv 0) (mem cv 1) (mem cv 2) (mem p 1 + j * mem p 3)) (4 * 10 ^ (6 - mem p 5).toNat) (mem p 8)
theorem RCK.step {mem m : Int → Int → Int} {p cv n x y : Int} (h : RCK mem m p cv n) (hd : mem p 13 ≠ mem p 15) (hx : x = nearBy (qV (mem cv 0) (mem cv 1) (mem cv 2) (mem p 1 + n * mem p 3)) (4 * 10 ^ (6 - (mem p 5 + mem p 6)).toNat) 0) (hy : y = nearBy (qV (mem cv 0) (mem cv 1) (mem cv 2) (mem p 1 + n * mem p 3)) (4 * 10 ^ (6 - mem p 5).toNat) (mem p 8)) : RCK mem (set2 (set2 m (mem p 13) n x) (mem p 15) n y) p cv (n + 1) := by
  refine ⟨fun b j q1 q2 => by rw [s2_a q2, s2_a q1]; exact h.1 b j q1 q2, fun j q1 q2 => ?_⟩
  by_cases e : j = n
  · subst e
    exact ⟨by rw [s2_a hd, s2_s]; exact hx, by rw [s2_s]; exact hy⟩
  · have h2 := h.2 j q1 (by omega)
    exact ⟨by rw [s2_k e, s2_k e]; exact h2.1, by rw [s2_k e, s2_k e]; exact h2.2⟩
set_option maxHeartbeats 4000000 in
set_option maxRecDepth 100000 in
theorem c_X3_reckon {l : Launch} {g : GP} (hG : GH g) {kd : Int → Nat} {ln : Int → Int} {mem : Int → Int → Int} {sz : Nat} (hK : HK kd ln) (hR : HR mem) (p : Int) (cv : Int) (hTN : TNS g) (hkp : kd p = 5) (hp0 : 0 ≤ p) (hPB : PB mem p) (hlx : mem p 1 + 39 * mem p 3 ≤ 99999 ∧ mem p 1 + (mem p 2 - 1) * mem p 3 ≤ 9999) (hck : kd cv = 2) (hcs : 0 ≤ mem cv 0 ∧ mem cv 0 ≤ 2 ∧ AB (mem cv 1) (mem cv 2) ∧ 0 ≤ cv) (h13 : kd (mem p 13) = 21 ∧ ln (mem p 13) = 40 ∧ 35 ≤ mem p 13) (h15 : kd (mem p 15) = 21 ∧ ln (mem p 15) = 40 ∧ 35 ≤ mem p 15) (hd : mem p 13 ≠ mem p 15) : MT l g yX3_reckon cX3_reckon 5 none 3 0 0 [(2, p), (2, cv)] kd ln mem sz (pMV (fun mem' => HR mem' ∧ (RCK mem mem' p cv (mem p 2))) kd ln sz) := by
  refine MT_of hG (by decide +kernel) (Nat.le_of_ble_eq_true rfl) (fun z hF hr hn => ?_)
  have ⟨b1, b2, b3, b4, b5, b6, b7, b8, b9, b10, b11, b12, b13, b14, b15, b16⟩ := hPB
  have hp13 : p ≠ mem p 13 := fun q1 => by (rw [← q1, hkp] at h13; omega)
  have hp15 : p ≠ mem p 15 := fun q1 => by (rw [← q1, hkp] at h15; omega)
  have hc13 : cv ≠ mem p 13 := fun q1 => by (rw [← q1, hck] at h13; omega)
  have hc15 : cv ≠ mem p 15 := fun q1 => by (rw [← q1, hck] at h15; omega)
  refine jblk hF [(.iconst 0, 1), (.istore_n 2, 1)] (by decide +kernel) (pc' := 2) (lo' := [(2, (0, 0)), (0, (2, p)), (1, (2, cv))]) (st' := []) rfl ?_
  have L_2 : ∀ (fu_3 : Nat) (n : Int) (m : Int → Int → Int), (HR m) → (0 ≤ n ∧ n ≤ mem p 2) → (RCK mem m p cv n) →  (mem p 2 - n).toNat < fu_3 → J z g 5 0 0 (QM z g 0 0 (pMV (fun mem' => HR mem' ∧ (RCK mem mem' p cv (mem p 2))) kd ln sz)) 2 [(0, (2, p)), (1, (2, cv)), (2, (0, n))] [] kd ln m sz := by
    intro fu_3
    induction fu_3 with
    | zero => intro n m _ _ _ hm; omega
    | succ fu_3 ih_1 =>
      intro n m hR_m hnn hrk hm
      have ec0 : m cv 0 = mem cv 0 := hrk.1 cv 0 hc13 hc15
      have ec1 : m cv 1 = mem cv 1 := hrk.1 cv 1 hc13 hc15
      have ec2 : m cv 2 = mem cv 2 := hrk.1 cv 2 hc13 hc15
      have ep1 : m p 1 = mem p 1 := hrk.1 p 1 hp13 hp15
      have ep2 : m p 2 = mem p 2 := hrk.1 p 2 hp13 hp15
      have ep3 : m p 3 = mem p 3 := hrk.1 p 3 hp13 hp15
      have ep5 : m p 5 = mem p 5 := hrk.1 p 5 hp13 hp15
      have ep6 : m p 6 = mem p 6 := hrk.1 p 6 hp13 hp15
      have ep8 : m p 8 = mem p 8 := hrk.1 p 8 hp13 hp15
      have ep13 : m p 13 = mem p 13 := hrk.1 p 13 hp13 hp15
      have ep15 : m p 15 = mem p 15 := hrk.1 p 15 hp13 hp15
      have hk13 : kd (m p 13) = 21 := by rw [ep13]; exact h13.1
      have hk15 : kd (m p 15) = 21 := by rw [ep15]; exact h15.1
      have hn13 : ln (m p 13) = 40 ∧ 35 ≤ m p 13 := by rw [ep13]; exact h13.2
      have hn15 : ln (m p 15) = 40 ∧ 35 ≤ m p 15 := by rw [ep15]; exact h15.2
      refine jblk hF [(.iload_n 2, 1), (.aload_n 0, 1)] (by decide +kernel) (pc' := 4) (lo' := [(0, (2, p)), (1, (2, cv)), (2, (0, n))]) (st' := [(2, p), (0, n)]) rfl ?_
      refine jget hF 4 2 0 2 rfl (by decide) (by decide) rfl wd_696 (by decide +kernel) (by first | assumption | omega) ?_
      refine jicmp_ge hF (off := 63) 70 (by decide +kernel) (by decide) (by omega) (by omega) (fun h_4 => ?_) (fun h_4 => ?_)
      · refine jvret hF hr (by decide +kernel) ?_
        exact lMV ⟨hR_m, by (rw [show mem p 2 = n by omega]; exact hrk)⟩
      · have hmx : n * mem p 3 ≤ (mem p 2 - 1) * mem p 3 := Int.mul_le_mul_of_nonneg_right (by omega) (by omega)
        have hmx0 : 0 ≤ n * mem p 3 := Int.mul_nonneg (by omega) (by omega)
        have hmx1 : m p 1 + n * m p 3 = mem p 1 + n * mem p 3 := by rw [ep1, ep3]
        have hqb := qV_bd (s := m cv 0) (a := m cv 1) (b := m cv 2) (x := m p 1 + n * m p 3) (by rw [ec1, ec2]; omega) (by omega)
        have hu1 := unit_bd (p := m p 5 + m p 6) (by omega)
        have hu2 := unit_bd (p := m p 5) (by omega)
        refine jblk hF [(.aload_n 1, 1), (.aload_n 0, 1), (.iload_n 2, 1)] (by decide +kernel) (pc' := 13) (lo' := [(0, (2, p)), (1, (2, cv)), (2, (0, n))]) (st' := [(0, n), (2, p), (2, cv)]) rfl ?_
        refine jcallV hF (c_X3_xOf hG p n (by first | assumption | omega) (by omega) (by omega) (by omega)) MW_X3_xOf 4 (by decide) (by first | assumption | omega) wd_781 wd_782 wd_783 (by decide +kernel) [(2, cv)] rfl rfl (by decide) (Nat.le_of_ble_eq_true rfl) (by decide) (kV ?_)
        refine jcallV hF (c_X0_quartersAt hG hK hR_m cv (m p 1 + n * m p 3) (by omega) (by assumption) (by first | assumption | omega) (by omega) (by omega) (by omega)) MW_X0_quartersAt 1 (by decide) (by first | assumption | omega) wd_800 wd_514 wd_515 (by decide +kernel) [] rfl rfl (by decide) (Nat.le_of_ble_eq_true rfl) (by decide) (kV ?_)
        refine jblk hF [(.lstore_n 3, 1), (.aload_n 0, 1)] (by decide +kernel) (pc' := 21) (lo' := [(3, (1, qV (m cv 0) (m cv 1) (m cv 2) (m p 1 + n * m p 3))), (0, (2, p)), (1, (2, cv)), (2, (0, n))]) (st' := [(2, p)]) rfl ?_
        refine jget hF 4 13 2 13 rfl (by decide) (by decide) rfl wd_718 (by decide +kernel) (by first | assumption | omega) ?_
        refine jblk hF [(.iload_n 2, 1), (.lload_n 3, 1), (.aload_n 0, 1)] (by decide +kernel) (pc' := 27) (lo' := [(3, (1, qV (m cv 0) (m cv 1) (m cv 2) (m p 1 + n * m p 3))), (0, (2, p)), (1, (2, cv)), (2, (0, n))]) (st' := [(2, p), (1, qV (m cv 0) (m cv 1) (m cv 2) (m p 1 + n * m p 3)), (0, n), (2, m p 13)]) rfl ?_
        refine jget hF 4 5 0 5 rfl (by decide) (by decide) rfl wd_703 (by decide +kernel) (by first | assumption | omega) ?_
        refine jblk hF [(.aload_n 0, 1)] (by decide +kernel) (pc' := 31) (lo' := [(3, (1, qV (m cv 0) (m cv 1) (m cv 2) (m p 1 + n * m p 3))), (0, (2, p)), (1, (2, cv)), (2, (0, n))]) (st' := [(2, p), (0, m p 5), (1, qV (m cv 0) (m cv 1) (m cv 2) (m p 1 + n * m p 3)), (0, n), (2, m p 13)]) rfl ?_
        refine jget hF 4 6 0 6 rfl (by decide) (by decide) rfl wd_704 (by decide +kernel) (by first | assumption | omega) ?_
        refine jblk hF [(.iadd, 1)] (by decide +kernel) (pc' := 35) (lo' := [(3, (1, qV (m cv 0) (m cv 1) (m cv 2) (m p 1 + n * m p 3))), (0, (2, p)), (1, (2, cv)), (2, (0, n))]) (st' := [(0, (m p 5) + (m p 6)), (1, qV (m cv 0) (m cv 1) (m cv 2) (m p 1 + n * m p 3)), (0, n), (2, m p 13)]) rfl ?_
        refine jcallSN hF (c_X11_unitOf hG hK hR_m ((m p 5) + (m p 6)) (by assumption) (by omega)) MW_X11_unitOf wd_801 wd_529 (by decide +kernel) [(1, qV (m cv 0) (m cv 1) (m cv 2) (m p 1 + n * m p 3)), (0, n), (2, m p 13)] rfl rfl (by decide) (Nat.le_of_ble_eq_true rfl) (by decide) (kV ?_)
        refine jblk hF [(.iconst 0, 1)] (by decide +kernel) (pc' := 39) (lo' := [(3, (1, qV (m cv 0) (m cv 1) (m cv 2) (m p 1 + n * m p 3))), (0, (2, p)), (1, (2, cv)), (2, (0, n))]) (st' := [(0, 0), (1, 4 * 10 ^ (6 - ((m p 5) + (m p 6))).toNat), (1, qV (m cv 0) (m cv 1) (m cv 2) (m p 1 + n * m p 3)), (0, n), (2, m p 13)]) rfl ?_
        refine jcallSN hF (c_X11_rounded hG (qV (m cv 0) (m cv 1) (m cv 2) (m p 1 + n * m p 3)) (4 * 10 ^ (6 - ((m p 5) + (m p 6))).toNat) 0 (by omega) (by omega) (by omega)) MW_X11_rounded wd_802 wd_554 (by decide +kernel) [(0, n), (2, m p 13)] rfl rfl (by decide) (Nat.le_of_ble_eq_true rfl) (by decide) (kV ?_)
        refine jlast hF (by decide +kernel) (by omega) (by first | assumption | omega) (by omega) (by omega) ?_
        obtain ⟨m4, hm4⟩ : ∃ q : Int → Int → Int, q = (set2 m (m p 13) n (nearBy (qV (m cv 0) (m cv 1) (m cv 2) (m p 1 + n * m p 3)) (4 * 10 ^ (6 - ((m p 5) + (m p 6))).toNat) 0)) := ⟨_, rfl⟩
        rw [← hm4]
        have hR_m4 : HR m4 := by rw [hm4]; exact (HR.s hR_m (by omega))
        have f15 : m4 p 15 = m p 15 := by rw [hm4]; exact s2_a (by omega)
        have f5 : m4 p 5 = m p 5 := by rw [hm4]; exact s2_a (by omega)
        have f8 : m4 p 8 = m p 8 := by rw [hm4]; exact s2_a (by omega)
        have fk15 : kd (m4 p 15) = 21 := by rw [f15]; exact hk15
        have fn15 : ln (m4 p 15) = 40 ∧ 35 ≤ m4 p 15 := by rw [f15]; exact hn15
        have hu3 := unit_bd (p := m4 p 5) (by omega)
        refine jblk hF [(.aload_n 0, 1)] (by decide +kernel) (pc' := 44) (lo' := [(3, (1, qV (m cv 0) (m cv 1) (m cv 2) (m p 1 + n * m p 3))), (0, (2, p)), (1, (2, cv)), (2, (0, n))]) (st' := [(2, p)]) rfl ?_
        refine jget hF 4 15 2 15 rfl (by decide) (by decide) rfl wd_723 (by decide +kernel) (by first | assumption | omega) ?_
        refine jblk hF [(.iload_n 2, 1), (.lload_n 3, 1), (.aload_n 0, 1)] (by decide +kernel) (pc' := 50) (lo' := [(3, (1, qV (m cv 0) (m cv 1) (m cv 2) (m p 1 + n * m p 3))), (0, (2, p)), (1, (2, cv)), (2, (0, n))]) (st' := [(2, p), (1, qV (m cv 0) (m cv 1) (m cv 2) (m p 1 + n * m p 3)), (0, n), (2, m4 p 15)]) rfl ?_
        refine jget hF 4 5 0 5 rfl (by decide) (by decide) rfl wd_703 (by decide +kernel) (by first | assumption | omega) ?_
        refine jcallSN hF (c_X11_unitOf hG hK hR_m4 (m4 p 5) (by assumption) (by omega)) MW_X11_unitOf wd_801 wd_529 (by decide +kernel) [(1, qV (m cv 0) (m cv 1) (m cv 2) (m p 1 + n * m p 3)), (0, n), (2, m4 p 15)] rfl rfl (by decide) (Nat.le_of_ble_eq_true rfl) (by decide) (kV ?_)
        refine jblk hF [(.aload_n 0, 1)] (by decide +kernel) (pc' := 57) (lo' := [(3, (1, qV (m cv 0) (m cv 1) (m cv 2) (m p 1 + n * m p 3))), (0, (2, p)), (1, (2, cv)), (2, (0, n))]) (st' := [(2, p), (1, 4 * 10 ^ (6 - (m4 p 5)).toNat), (1, qV (m cv 0) (m cv 1) (m cv 2) (m p 1 + n * m p 3)), (0, n), (2, m4 p 15)]) rfl ?_
        refine jget hF 4 8 0 8 rfl (by decide) (by decide) rfl wd_708 (by decide +kernel) (by first | assumption | omega) ?_
        refine jcallSN hF (c_X11_rounded hG (qV (m cv 0) (m cv 1) (m cv 2) (m p 1 + n * m p 3)) (4 * 10 ^ (6 - (m4 p 5)).toNat) (m4 p 8) (by omega) (by omega) (by omega)) MW_X11_rounded wd_802 wd_554 (by decide +kernel) [(0, n), (2, m4 p 15)] rfl rfl (by decide) (Nat.le_of_ble_eq_true rfl) (by decide) (kV ?_)
        refine jlast hF (by decide +kernel) (by omega) (by first | assumption | omega) (by omega) (by omega) ?_
        refine jblk hF [(.iinc 2 1, 3)] (by decide +kernel) (pc' := 67) (lo' := [(2, (0, n + 1)), (3, (1, qV (m cv 0) (m cv 1) (m cv 2) (m p 1 + n * m p 3))), (0, (2, p)), (1, (2, cv))]) (st' := []) rfl ?_
        refine jgoto hF (off := (-65)) 2 (by decide +kernel) (by decide) ?_
        refine jsub [2, 3, 0] rfl ?_
        refine ih_1 (n + 1) (set2 m4 (m4 p 15) n (nearBy (qV (m cv 0) (m cv 1) (m cv 2) (m p 1 + n * m p 3)) (4 * 10 ^ (6 - (m4 p 5)).toNat) (m4 p 8))) ?_ ?_ ?_ ?_
        · exact (HR.s hR_m4 (by omega))
        · omega
        · (rw [f15, f5, f8, hm4, ep13, ep15]; exact hrk.step hd (by rw [ec0, ec1, ec2, ep1, ep3, ep5, ep6]) (by rw [ec0, ec1, ec2, ep1, ep3, ep5, ep8]))
        · omega
  refine jsub [1, 2, 0] rfl ?_
  refine L_2 _ 0 mem ?_ ?_ ?_ (Nat.lt_succ_self _)
  · exact hR
  · omega
  · exact ⟨fun b j _ _ => rfl, fun j q1 q2 => by omega⟩
end
