section
set_option maxHeartbeats 4000000 in
set_option maxRecDepth 100000 in
theorem c_X12_make {l : Launch} {g : GP} (hG : GH g) {kd : Int → Nat} {ln : Int → Int} {mem : Int → Int → Int} {sz : Nat} (hS : SK kd ln) (hR : SR mem) (f first a many o p m : Int) (hA : MKA mem f first a many o p m) : MT l g yX12_make cX12_make 12 none 3 0 0 [(2, 35), (0, f), (0, first), (0, a), (0, many), (0, o), (0, p), (0, m)] kd ln mem sz (pMV (fun mem' => SR mem' ∧ (MK mem mem' (nearL mem f first a p) o m many)) kd ln sz) := by
  refine MT_of hG (by decide +kernel) (Nat.le_of_ble_eq_true rfl) (fun z hF hr hn => ?_)
  refine jblk hF [(.iconst 0, 1), (.istore 8, 2)] (by decide +kernel) (pc' := 3) (lo' := [(8, (0, 0)), (0, (2, 35)), (1, (0, f)), (2, (0, first)), (3, (0, a)), (4, (0, many)), (5, (0, o)), (6, (0, p)), (7, (0, m))]) (st' := []) rfl ?_
  have L_2 : ∀ (fu_3 : Nat) (n : Int) (m1 : Int → Int → Int), (0 ≤ n ∧ n ≤ many) → (SR m1) → (MK mem m1 (nearL mem f first a p) o m n) →  (many - n).toNat < fu_3 → J z g 12 0 0 (QM z g 0 0 (pMV (fun mem' => SR mem' ∧ (MK mem mem' (nearL mem f first a p) o m many)) kd ln sz)) 3 [(0, (2, 35)), (1, (0, f)), (2, (0, first)), (3, (0, a)), (4, (0, many)), (5, (0, o)), (6, (0, p)), (7, (0, m)), (8, (0, n))] [] kd ln m1 sz := by
    intro fu_3
    induction fu_3 with
    | zero => intro n m1 _ _ _ hm; omega
    | succ fu_3 ih_1 =>
      intro n m1 hn1 hR_m1 hK1 hm
      refine jblk hF [(.iload 8, 2), (.iload 4, 2)] (by decide +kernel) (pc' := 7) (lo' := [(0, (2, 35)), (1, (0, f)), (2, (0, first)), (3, (0, a)), (4, (0, many)), (5, (0, o)), (6, (0, p)), (7, (0, m)), (8, (0, n))]) (st' := [(0, many), (0, n)]) rfl ?_
      refine jicmp_ge hF (off := 312) 319 (by decide +kernel) (by decide) (by omega) (by omega) (fun h_4 => ?_) (fun h_4 => ?_)
      · refine jvret hF hr (by decide +kernel) ?_
        exact lMV ⟨hR_m1, by have : n = many := (by omega); subst this; exact hK1⟩
      · have hx := line_x (by omega) (by omega) hA.2.2.2.2.2.2.2.2.2.2.2.2 hn1.1 (by omega)
        have hmod := Int.emod_nonneg n (by omega : m ≠ 0)
        have hmod2 := Int.emod_lt_of_pos n (by omega : 0 < m)
        have hmle := mod_le (n := n) (m := m) (by omega) (by omega)
        have e36 := hK1.2.1 36 f (by decide) (by decide) (by decide)
        have e37 := hK1.2.1 37 f (by decide) (by decide) (by decide)
        have e38 := hK1.2.1 38 f (by decide) (by decide) (by decide)
        refine jblk hF [(.iload 8, 2), (.iload 7, 2)] (by decide +kernel) (pc' := 14) (lo' := [(0, (2, 35)), (1, (0, f)), (2, (0, first)), (3, (0, a)), (4, (0, many)), (5, (0, o)), (6, (0, p)), (7, (0, m)), (8, (0, n))]) (st' := [(0, m), (0, n)]) rfl ?_
        refine jiremN hF (by decide +kernel) (by omega) (by omega) ?_
        refine jblk hF [(.istore 9, 2), (.iload 9, 2), (.iload 5, 2)] (by decide +kernel) (pc' := 21) (lo' := [(9, (0, n % m)), (0, (2, 35)), (1, (0, f)), (2, (0, first)), (3, (0, a)), (4, (0, many)), (5, (0, o)), (6, (0, p)), (7, (0, m)), (8, (0, n))]) (st' := [(0, o), (0, n % m)]) rfl ?_
        refine jicmp_gt hF (off := 167) 188 (by decide +kernel) (by decide) (by omega) (by omega) (fun h_5 => ?_) (fun h_5 => ?_)
        · have hmd : ¬ n % m ≤ o := by omega
          have hmp := mod_in (n := n) (m := m) (o := n % m) (k := n % m - 1) (by omega) rfl (by omega) (by omega)
          rw [show n - n % m + (n % m - 1) = n - 1 by omega] at hmp
          refine jblk hF [(.aload_n 0, 1)] (by decide +kernel) (pc' := 189) (lo' := [(9, (0, n % m)), (0, (2, 35)), (1, (0, f)), (2, (0, first)), (3, (0, a)), (4, (0, many)), (5, (0, o)), (6, (0, p)), (7, (0, m)), (8, (0, n))]) (st' := [(2, 35)]) rfl ?_
          refine jget hF 13 36 2 36 rfl (by decide) (by decide) rfl wd_1499 (by decide +kernel) (by exact hS.k35) ?_
          rw [SR.r36 hR_m1]
          refine jblk hF [(.iconst 5, 1), (.iload 8, 2), (.imul, 1), (.iload 5, 2), (.iadd, 1), (.aload_n 0, 1)] (by decide +kernel) (pc' := 200) (lo' := [(9, (0, n % m)), (0, (2, 35)), (1, (0, f)), (2, (0, first)), (3, (0, a)), (4, (0, many)), (5, (0, o)), (6, (0, p)), (7, (0, m)), (8, (0, n))]) (st' := [(2, 35), (0, (5 * n) + o), (2, 60)]) rfl ?_
          refine jget hF 13 36 2 36 rfl (by decide) (by decide) rfl wd_1499 (by decide +kernel) (by exact hS.k35) ?_
          rw [SR.r36 hR_m1]
          refine jblk hF [(.iconst 5, 1), (.iload 8, 2), (.imul, 1), (.iconst 5, 1), (.isub, 1), (.iload 5, 2), (.iadd, 1)] (by decide +kernel) (pc' := 212) (lo' := [(9, (0, n % m)), (0, (2, 35)), (1, (0, f)), (2, (0, first)), (3, (0, a)), (4, (0, many)), (5, (0, o)), (6, (0, p)), (7, (0, m)), (8, (0, n))]) (st' := [(0, ((5 * n) - 5) + o), (2, 60), (0, (5 * n) + o), (2, 60)]) rfl ?_
          refine jlald hF (by decide +kernel) (by exact hS.k60) (by omega) (by have := hS.l60; omega) ?_
          refine jlast hF (by decide +kernel) (by decide) (by exact hS.k60) (by omega) (by have := hS.l60; omega) ?_
          refine jblk hF [(.iload 5, 2), (.iconst 1, 1), (.isub, 1), (.istore 10, 2)] (by decide +kernel) (pc' := 220) (lo' := [(10, (0, o - 1)), (9, (0, n % m)), (0, (2, 35)), (1, (0, f)), (2, (0, first)), (3, (0, a)), (4, (0, many)), (5, (0, o)), (6, (0, p)), (7, (0, m)), (8, (0, n))]) (st' := []) rfl ?_
          have L_7 : ∀ (fu_8 : Nat) (j : Int) (m5 : Int → Int → Int), (-1 ≤ j ∧ j ≤ o - 1) → (SR m5) → (MK mem m5 (nearL mem f first a p) o m n) → (∀ i : Int, j < i → i ≤ o → m5 60 (5 * n + i) = rowF (nearL mem f first a p) (mem 59) o m n i) →  (j + 1).toNat < fu_8 → J z g 12 0 0 (QM z g 0 0 (pMV (fun mem' => SR mem' ∧ (MK mem mem' (nearL mem f first a p) o m many)) kd ln sz)) 220 [(0, (2, 35)), (1, (0, f)), (2, (0, first)), (3, (0, a)), (4, (0, many)), (5, (0, o)), (6, (0, p)), (7, (0, m)), (8, (0, n)), (9, (0, n % m)), (10, (0, j))] [] kd ln m5 sz := by
            intro fu_8
            induction fu_8 with
            | zero => intro j m5 _ _ _ _ hm; omega
            | succ fu_8 ih_6 =>
              intro j m5 hj hR_m5 hK6 hP6 hm5
              refine jblk hF [(.iload 10, 2)] (by decide +kernel) (pc' := 222) (lo' := [(0, (2, 35)), (1, (0, f)), (2, (0, first)), (3, (0, a)), (4, (0, many)), (5, (0, o)), (6, (0, p)), (7, (0, m)), (8, (0, n)), (9, (0, n % m)), (10, (0, j))]) (st' := [(0, j)]) rfl ?_
              refine jif_lt hF (off := 63) 285 (by decide +kernel) (by decide) (by omega) (fun h_9 => ?_) (fun h_9 => ?_)
              · refine jblk hF [(.aload_n 0, 1)] (by decide +kernel) (pc' := 286) (lo' := [(0, (2, 35)), (1, (0, f)), (2, (0, first)), (3, (0, a)), (4, (0, many)), (5, (0, o)), (6, (0, p)), (7, (0, m)), (8, (0, n)), (9, (0, n % m)), (10, (0, j))]) (st' := [(2, 35)]) rfl ?_
                refine jget hF 13 37 2 37 rfl (by decide) (by decide) rfl wd_1500 (by decide +kernel) (by exact hS.k35) ?_
                rw [SR.r37 hR_m5]
                refine jblk hF [(.iload 8, 2), (.aload_n 0, 1)] (by decide +kernel) (pc' := 292) (lo' := [(0, (2, 35)), (1, (0, f)), (2, (0, first)), (3, (0, a)), (4, (0, many)), (5, (0, o)), (6, (0, p)), (7, (0, m)), (8, (0, n)), (9, (0, n % m)), (10, (0, j))]) (st' := [(2, 35), (0, n), (2, 61)]) rfl ?_
                refine jget hF 13 36 2 36 rfl (by decide) (by decide) rfl wd_1499 (by decide +kernel) (by exact hS.k35) ?_
                rw [SR.r36 hR_m5]
                refine jblk hF [(.iconst 5, 1), (.iload 8, 2), (.imul, 1)] (by decide +kernel) (pc' := 299) (lo' := [(0, (2, 35)), (1, (0, f)), (2, (0, first)), (3, (0, a)), (4, (0, many)), (5, (0, o)), (6, (0, p)), (7, (0, m)), (8, (0, n)), (9, (0, n % m)), (10, (0, j))]) (st' := [(0, 5 * n), (2, 60), (0, n), (2, 61)]) rfl ?_
                refine jlald hF (by decide +kernel) (by exact hS.k60) (by omega) (by have := hS.l60; omega) ?_
                refine jblk hF [(.aload_n 0, 1)] (by decide +kernel) (pc' := 301) (lo' := [(0, (2, 35)), (1, (0, f)), (2, (0, first)), (3, (0, a)), (4, (0, many)), (5, (0, o)), (6, (0, p)), (7, (0, m)), (8, (0, n)), (9, (0, n % m)), (10, (0, j))]) (st' := [(2, 35), (1, m5 60 (5 * n)), (0, n), (2, 61)]) rfl ?_
                refine jget hF 13 35 2 35 rfl (by decide) (by decide) rfl wd_1498 (by decide +kernel) (by exact hS.k35) ?_
                rw [SR.r35 hR_m5]
                refine jblk hF [(.iconst 5, 1), (.iload 8, 2), (.imul, 1), (.iconst 4, 1), (.iadd, 1)] (by decide +kernel) (pc' := 310) (lo' := [(0, (2, 35)), (1, (0, f)), (2, (0, first)), (3, (0, a)), (4, (0, many)), (5, (0, o)), (6, (0, p)), (7, (0, m)), (8, (0, n)), (9, (0, n % m)), (10, (0, j))]) (st' := [(0, (5 * n) + 4), (2, 59), (1, m5 60 (5 * n)), (0, n), (2, 61)]) rfl ?_
                refine jlald hF (by decide +kernel) (by exact hS.k59) (by omega) (by have := hS.l59; omega) ?_
                refine jblk hF [(.ladd, 1)] (by decide +kernel) (pc' := 312) (lo' := [(0, (2, 35)), (1, (0, f)), (2, (0, first)), (3, (0, a)), (4, (0, many)), (5, (0, o)), (6, (0, p)), (7, (0, m)), (8, (0, n)), (9, (0, n % m)), (10, (0, j))]) (st' := [(1, (m5 60 (5 * n)) + (m5 59 ((5 * n) + 4))), (0, n), (2, 61)]) rfl ?_
                refine jlast hF (by decide +kernel) (by decide) (by exact hS.k61) (by omega) (by have := hS.l61; omega) ?_
                refine jblk hF [(.iinc 8 1, 3)] (by decide +kernel) (pc' := 316) (lo' := [(8, (0, n + 1)), (0, (2, 35)), (1, (0, f)), (2, (0, first)), (3, (0, a)), (4, (0, many)), (5, (0, o)), (6, (0, p)), (7, (0, m)), (9, (0, n % m)), (10, (0, j))]) (st' := []) rfl ?_
                refine jgoto hF (off := (-313)) 3 (by decide +kernel) (by decide) ?_
                refine jsub [1, 2, 3, 4, 5, 6, 7, 8, 0] rfl ?_
                refine ih_1 (n + 1) (set2 m5 61 n ((m5 60 (5 * n)) + (m5 59 ((5 * n) + 4)))) ?_ ?_ ?_ ?_
                · omega
                · first | exact (hK3.next (by rw [hP3.1, numF_piv (by omega) (by omega) (by omega) (by omega)]) (fun _ j h1 h2 => by rw [hP3.2 j h1 (by omega), rowF_piv (by omega) (by omega) (by omega) (by omega)])).1 | exact (((hK1.put61 _ (Int.le_refl _)).put60 _ (by omega) (by omega)).next (by rw [s2_a (by decide), s2_s, numF_piv (by omega) (by omega) (by omega) (by omega)]) (fun h => absurd h (by omega))).1 | exact ((hK6.put61 _ (Int.le_refl _)).next (by rw [s2_s, numF_made (by omega) (by omega) (by omega) hmd, hK6.2.1 59 _ (by decide) (by decide) (by decide)]; congr 1; rw [← hP6 0 (by omega) (by omega), Int.add_zero]) (fun _ j h1 h2 => by rw [s2_a (by decide)]; exact hP6 j (by omega) h2)).1
                · first | exact (hK3.next (by rw [hP3.1, numF_piv (by omega) (by omega) (by omega) (by omega)]) (fun _ j h1 h2 => by rw [hP3.2 j h1 (by omega), rowF_piv (by omega) (by omega) (by omega) (by omega)])) | exact (((hK1.put61 _ (Int.le_refl _)).put60 _ (by omega) (by omega)).next (by rw [s2_a (by decide), s2_s, numF_piv (by omega) (by omega) (by omega) (by omega)]) (fun h => absurd h (by omega))) | exact ((hK6.put61 _ (Int.le_refl _)).next (by rw [s2_s, numF_made (by omega) (by omega) (by omega) hmd, hK6.2.1 59 _ (by decide) (by decide) (by decide)]; congr 1; rw [← hP6 0 (by omega) (by omega), Int.add_zero]) (fun _ j h1 h2 => by rw [s2_a (by decide)]; exact hP6 j (by omega) h2))
                · omega
              · refine jblk hF [(.aload_n 0, 1)] (by decide +kernel) (pc' := 226) (lo' := [(0, (2, 35)), (1, (0, f)), (2, (0, first)), (3, (0, a)), (4, (0, many)), (5, (0, o)), (6, (0, p)), (7, (0, m)), (8, (0, n)), (9, (0, n % m)), (10, (0, j))]) (st' := [(2, 35)]) rfl ?_
                refine jget hF 13 36 2 36 rfl (by decide) (by decide) rfl wd_1499 (by decide +kernel) (by exact hS.k35) ?_
                rw [SR.r36 hR_m5]
                refine jblk hF [(.iconst 5, 1), (.iload 8, 2), (.imul, 1), (.iload 10, 2), (.iadd, 1), (.aload_n 0, 1)] (by decide +kernel) (pc' := 237) (lo' := [(0, (2, 35)), (1, (0, f)), (2, (0, first)), (3, (0, a)), (4, (0, many)), (5, (0, o)), (6, (0, p)), (7, (0, m)), (8, (0, n)), (9, (0, n % m)), (10, (0, j))]) (st' := [(2, 35), (0, (5 * n) + j), (2, 60)]) rfl ?_
                refine jget hF 13 36 2 36 rfl (by decide) (by decide) rfl wd_1499 (by decide +kernel) (by exact hS.k35) ?_
                rw [SR.r36 hR_m5]
                refine jblk hF [(.iconst 5, 1), (.iload 8, 2), (.imul, 1), (.iconst 5, 1), (.isub, 1), (.iload 10, 2), (.iadd, 1)] (by decide +kernel) (pc' := 249) (lo' := [(0, (2, 35)), (1, (0, f)), (2, (0, first)), (3, (0, a)), (4, (0, many)), (5, (0, o)), (6, (0, p)), (7, (0, m)), (8, (0, n)), (9, (0, n % m)), (10, (0, j))]) (st' := [(0, ((5 * n) - 5) + j), (2, 60), (0, (5 * n) + j), (2, 60)]) rfl ?_
                refine jlald hF (by decide +kernel) (by exact hS.k60) (by omega) (by have := hS.l60; omega) ?_
                refine jblk hF [(.aload_n 0, 1)] (by decide +kernel) (pc' := 251) (lo' := [(0, (2, 35)), (1, (0, f)), (2, (0, first)), (3, (0, a)), (4, (0, many)), (5, (0, o)), (6, (0, p)), (7, (0, m)), (8, (0, n)), (9, (0, n % m)), (10, (0, j))]) (st' := [(2, 35), (1, m5 60 (((5 * n) - 5) + j)), (0, (5 * n) + j), (2, 60)]) rfl ?_
                refine jget hF 13 36 2 36 rfl (by decide) (by decide) rfl wd_1499 (by decide +kernel) (by exact hS.k35) ?_
                rw [SR.r36 hR_m5]
                refine jblk hF [(.iconst 5, 1), (.iload 8, 2), (.imul, 1), (.iload 10, 2), (.iadd, 1), (.iconst 1, 1), (.iadd, 1)] (by decide +kernel) (pc' := 263) (lo' := [(0, (2, 35)), (1, (0, f)), (2, (0, first)), (3, (0, a)), (4, (0, many)), (5, (0, o)), (6, (0, p)), (7, (0, m)), (8, (0, n)), (9, (0, n % m)), (10, (0, j))]) (st' := [(0, ((5 * n) + j) + 1), (2, 60), (1, m5 60 (((5 * n) - 5) + j)), (0, (5 * n) + j), (2, 60)]) rfl ?_
                refine jlald hF (by decide +kernel) (by exact hS.k60) (by omega) (by have := hS.l60; omega) ?_
                refine jblk hF [(.ladd, 1), (.aload_n 0, 1)] (by decide +kernel) (pc' := 266) (lo' := [(0, (2, 35)), (1, (0, f)), (2, (0, first)), (3, (0, a)), (4, (0, many)), (5, (0, o)), (6, (0, p)), (7, (0, m)), (8, (0, n)), (9, (0, n % m)), (10, (0, j))]) (st' := [(2, 35), (1, (m5 60 (((5 * n) - 5) + j)) + (m5 60 (((5 * n) + j) + 1))), (0, (5 * n) + j), (2, 60)]) rfl ?_
                refine jget hF 13 35 2 35 rfl (by decide) (by decide) rfl wd_1498 (by decide +kernel) (by exact hS.k35) ?_
                rw [SR.r35 hR_m5]
                refine jblk hF [(.iconst 5, 1), (.iload 8, 2), (.imul, 1), (.iload 10, 2), (.iadd, 1)] (by decide +kernel) (pc' := 276) (lo' := [(0, (2, 35)), (1, (0, f)), (2, (0, first)), (3, (0, a)), (4, (0, many)), (5, (0, o)), (6, (0, p)), (7, (0, m)), (8, (0, n)), (9, (0, n % m)), (10, (0, j))]) (st' := [(0, (5 * n) + j), (2, 59), (1, (m5 60 (((5 * n) - 5) + j)) + (m5 60 (((5 * n) + j) + 1))), (0, (5 * n) + j), (2, 60)]) rfl ?_
                refine jlald hF (by decide +kernel) (by exact hS.k59) (by omega) (by have := hS.l59; omega) ?_
                refine jblk hF [(.ladd, 1)] (by decide +kernel) (pc' := 278) (lo' := [(0, (2, 35)), (1, (0, f)), (2, (0, first)), (3, (0, a)), (4, (0, many)), (5, (0, o)), (6, (0, p)), (7, (0, m)), (8, (0, n)), (9, (0, n % m)), (10, (0, j))]) (st' := [(1, ((m5 60 (((5 * n) - 5) + j)) + (m5 60 (((5 * n) + j) + 1))) + (m5 59 ((5 * n) + j))), (0, (5 * n) + j), (2, 60)]) rfl ?_
                refine jlast hF (by decide +kernel) (by decide) (by exact hS.k60) (by omega) (by have := hS.l60; omega) ?_
                refine jblk hF [(.iinc 10 (-1), 3)] (by decide +kernel) (pc' := 282) (lo' := [(10, (0, j + (-1))), (0, (2, 35)), (1, (0, f)), (2, (0, first)), (3, (0, a)), (4, (0, many)), (5, (0, o)), (6, (0, p)), (7, (0, m)), (8, (0, n)), (9, (0, n % m))]) (st' := []) rfl ?_
                refine jgoto hF (off := (-62)) 220 (by decide +kernel) (by decide) ?_
                refine jsub [1, 2, 3, 4, 5, 6, 7, 8, 9, 10, 0] rfl ?_
                refine ih_6 (j + (-1)) (set2 m5 60 ((5 * n) + j) (((m5 60 (((5 * n) - 5) + j)) + (m5 60 (((5 * n) + j) + 1))) + (m5 59 ((5 * n) + j)))) ?_ ?_ ?_ ?_ ?_
                · omega
                · exact (hK6.put60 _ (by omega) (by omega)).1
                · exact hK6.put60 _ (by omega) (by omega)
                · exact down_off (f := fun i => rowF (nearL mem f first a p) (mem 59) o m n i) hP6 (by show _ = rowF _ _ _ _ _ _; rw [rowF_step (by omega) (by omega) (by omega) (by omega) hmd, ← hP6 (j + 1) (by omega) (by omega), ← hK6.2.2.2 (n - 1) j (by omega) (by omega) (by omega) (by omega) (by omega), hK6.2.1 59 _ (by decide) (by decide) (by decide), show 5 * (n - 1) + j = 5 * n - 5 + j by omega, show 5 * n + (j + 1) = 5 * n + j + 1 by omega])
                · omega
          refine jsub [2, 3, 4, 5, 6, 7, 8, 9, 10, 1, 0] rfl ?_
          refine L_7 _ (o - 1) (set2 m1 60 ((5 * n) + o) (m1 60 (((5 * n) - 5) + o))) ?_ ?_ ?_ ?_ (Nat.lt_succ_self _)
          · omega
          · exact (hK1.put60 _ (by omega) (by omega)).1
          · exact hK1.put60 _ (by omega) (by omega)
          · intro i h1 h2; obtain rfl : i = o := (by omega); rw [s2_s, rowF_top (by omega) (by omega) (by omega) hmd, ← hK1.2.2.2 (n - 1) i (by omega) (by omega) (by omega) (by omega) (by omega)]; congr 1; omega
        · refine jblk hF [(.aload_n 0, 1)] (by decide +kernel) (pc' := 25) (lo' := [(9, (0, n % m)), (0, (2, 35)), (1, (0, f)), (2, (0, first)), (3, (0, a)), (4, (0, many)), (5, (0, o)), (6, (0, p)), (7, (0, m)), (8, (0, n))]) (st' := [(2, 35)]) rfl ?_
          refine jget hF 13 37 2 37 rfl (by decide) (by decide) rfl wd_1500 (by decide +kernel) (by exact hS.k35) ?_
          rw [SR.r37 hR_m1]
          refine jblk hF [(.iload 8, 2), (.aload_n 0, 1), (.iload_n 1, 1), (.iload_n 2, 1), (.iload 8, 2), (.iload_n 3, 1), (.imul, 1), (.iadd, 1), (.iload 6, 2), (.iconst 0, 1)] (by decide +kernel) (pc' := 41) (lo' := [(9, (0, n % m)), (0, (2, 35)), (1, (0, f)), (2, (0, first)), (3, (0, a)), (4, (0, many)), (5, (0, o)), (6, (0, p)), (7, (0, m)), (8, (0, n))]) (st' := [(0, 0), (0, p), (0, first + (n * a)), (0, f), (2, 35), (0, n), (2, 61)]) rfl ?_
          refine jcallV hF (c_X12_nearestOf hG hS hR_m1 f (first + (n * a)) p 0 (by omega) (by omega) (by omega)) MW_X12_nearestOf 13 (by decide) (by exact hS.k35) wd_1802 wd_1804 wd_p53 (by decide +kernel) [(0, n), (2, 61)] rfl rfl (by decide) (Nat.le_of_ble_eq_true rfl) (by decide) (kV ?_)
          have hf_10 := @near_bd (m1 36 f) (m1 37 f) (m1 38 f) (first + (n * a)) p 0 (by omega) (by omega)
          have hnv : (nearV (m1 36 f) (m1 37 f) (m1 38 f) (first + (n * a)) p 0) = nearL mem f first a p n := by unfold nearL; rw [e36, e37, e38]
          rw [hnv]
          refine jlast hF (by decide +kernel) (by decide) (by exact hS.k61) (by omega) (by have := hS.l61; omega) ?_
          refine jblk hF [(.aload_n 0, 1)] (by decide +kernel) (pc' := 46) (lo' := [(9, (0, n % m)), (0, (2, 35)), (1, (0, f)), (2, (0, first)), (3, (0, a)), (4, (0, many)), (5, (0, o)), (6, (0, p)), (7, (0, m)), (8, (0, n))]) (st' := [(2, 35)]) rfl ?_
          refine jget hF 13 36 2 36 rfl (by decide) (by decide) rfl wd_1499 (by decide +kernel) (by exact hS.k35) ?_
          rw [SR.r36 (SR.s hR_m1 (Or.inl (by decide)))]
          refine jblk hF [(.iconst 5, 1), (.iload 8, 2), (.imul, 1), (.aload_n 0, 1)] (by decide +kernel) (pc' := 54) (lo' := [(9, (0, n % m)), (0, (2, 35)), (1, (0, f)), (2, (0, first)), (3, (0, a)), (4, (0, many)), (5, (0, o)), (6, (0, p)), (7, (0, m)), (8, (0, n))]) (st' := [(2, 35), (0, 5 * n), (2, 60)]) rfl ?_
          refine jget hF 13 37 2 37 rfl (by decide) (by decide) rfl wd_1500 (by decide +kernel) (by exact hS.k35) ?_
          rw [SR.r37 (SR.s hR_m1 (Or.inl (by decide)))]
          refine jblk hF [(.iload 8, 2)] (by decide +kernel) (pc' := 59) (lo' := [(9, (0, n % m)), (0, (2, 35)), (1, (0, f)), (2, (0, first)), (3, (0, a)), (4, (0, many)), (5, (0, o)), (6, (0, p)), (7, (0, m)), (8, (0, n))]) (st' := [(0, n), (2, 61), (0, 5 * n), (2, 60)]) rfl ?_
          refine jlald hF (by decide +kernel) (by exact hS.k61) (by omega) (by have := hS.l61; omega) ?_
          rw [show (set2 m1 61 n (nearL mem f first a p n)) 61 n = (nearL mem f first a p n) from s2_s]
          refine jlast hF (by decide +kernel) (by decide) (by exact hS.k60) (by omega) (by have := hS.l60; omega) ?_
          refine jblk hF [(.iload 9, 2), (.iload 5, 2)] (by decide +kernel) (pc' := 65) (lo' := [(9, (0, n % m)), (0, (2, 35)), (1, (0, f)), (2, (0, first)), (3, (0, a)), (4, (0, many)), (5, (0, o)), (6, (0, p)), (7, (0, m)), (8, (0, n))]) (st' := [(0, o), (0, n % m)]) rfl ?_
          refine jicmp_ne hF (off := 248) 313 (by decide +kernel) (by decide) (by omega) (by omega) (fun h_11 => ?_) (fun h_11 => ?_)
          · refine jblk hF [(.iinc 8 1, 3)] (by decide +kernel) (pc' := 316) (lo' := [(8, (0, n + 1)), (9, (0, n % m)), (0, (2, 35)), (1, (0, f)), (2, (0, first)), (3, (0, a)), (4, (0, many)), (5, (0, o)), (6, (0, p)), (7, (0, m))]) (st' := []) rfl ?_
            refine jgoto hF (off := (-313)) 3 (by decide +kernel) (by decide) ?_
            refine jsub [2, 3, 4, 5, 6, 7, 8, 9, 0] rfl ?_
            refine ih_1 (n + 1) (set2 (set2 m1 61 n (nearL mem f first a p n)) 60 (5 * n) (nearL mem f first a p n)) ?_ ?_ ?_ ?_
            · omega
            · first | exact (hK3.next (by rw [hP3.1, numF_piv (by omega) (by omega) (by omega) (by omega)]) (fun _ j h1 h2 => by rw [hP3.2 j h1 (by omega), rowF_piv (by omega) (by omega) (by omega) (by omega)])).1 | exact (((hK1.put61 _ (Int.le_refl _)).put60 _ (by omega) (by omega)).next (by rw [s2_a (by decide), s2_s, numF_piv (by omega) (by omega) (by omega) (by omega)]) (fun h => absurd h (by omega))).1 | exact ((hK6.put61 _ (Int.le_refl _)).next (by rw [s2_s, numF_made (by omega) (by omega) (by omega) hmd, hK6.2.1 59 _ (by decide) (by decide) (by decide)]; congr 1; rw [← hP6 0 (by omega) (by omega), Int.add_zero]) (fun _ j h1 h2 => by rw [s2_a (by decide)]; exact hP6 j (by omega) h2)).1
            · first | exact (hK3.next (by rw [hP3.1, numF_piv (by omega) (by omega) (by omega) (by omega)]) (fun _ j h1 h2 => by rw [hP3.2 j h1 (by omega), rowF_piv (by omega) (by omega) (by omega) (by omega)])) | exact (((hK1.put61 _ (Int.le_refl _)).put60 _ (by omega) (by omega)).next (by rw [s2_a (by decide), s2_s, numF_piv (by omega) (by omega) (by omega) (by omega)]) (fun h => absurd h (by omega))) | exact ((hK6.put61 _ (Int.le_refl _)).next (by rw [s2_s, numF_made (by omega) (by omega) (by omega) hmd, hK6.2.1 59 _ (by decide) (by decide) (by decide)]; congr 1; rw [← hP6 0 (by omega) (by omega), Int.add_zero]) (fun _ j h1 h2 => by rw [s2_a (by decide)]; exact hP6 j (by omega) h2))
            · omega
          · refine jblk hF [(.iconst 0, 1), (.istore 10, 2)] (by decide +kernel) (pc' := 71) (lo' := [(10, (0, 0)), (9, (0, n % m)), (0, (2, 35)), (1, (0, f)), (2, (0, first)), (3, (0, a)), (4, (0, many)), (5, (0, o)), (6, (0, p)), (7, (0, m)), (8, (0, n))]) (st' := []) rfl ?_
            have L_13 : ∀ (fu_14 : Nat) (k : Int) (m2 : Int → Int → Int), (0 ≤ k ∧ k ≤ o + 1) → (SR m2) → (MK mem m2 (nearL mem f first a p) o m n) → (m2 61 n = nearL mem f first a p n ∧ m2 60 (5 * n) = nearL mem f first a p n) → (∀ i : Int, 0 ≤ i → i < k → m2 62 i = nearL mem f first a p (n - o + i)) →  (o + 1 - k).toNat < fu_14 → J z g 12 0 0 (QM z g 0 0 (pMV (fun mem' => SR mem' ∧ (MK mem mem' (nearL mem f first a p) o m many)) kd ln sz)) 71 [(0, (2, 35)), (1, (0, f)), (2, (0, first)), (3, (0, a)), (4, (0, many)), (5, (0, o)), (6, (0, p)), (7, (0, m)), (8, (0, n)), (9, (0, n % m)), (10, (0, k))] [] kd ln m2 sz := by
              intro fu_14
              induction fu_14 with
              | zero => intro k m2 _ _ _ _ _ hm; omega
              | succ fu_14 ih_12 =>
                intro k m2 hk hR_m2 hK2 hP2 hQ2 hm2
                refine jblk hF [(.iload 10, 2), (.iload 5, 2)] (by decide +kernel) (pc' := 75) (lo' := [(0, (2, 35)), (1, (0, f)), (2, (0, first)), (3, (0, a)), (4, (0, many)), (5, (0, o)), (6, (0, p)), (7, (0, m)), (8, (0, n)), (9, (0, n % m)), (10, (0, k))]) (st' := [(0, o), (0, k)]) rfl ?_
                refine jicmp_gt hF (off := 29) 104 (by decide +kernel) (by decide) (by omega) (by omega) (fun h_15 => ?_) (fun h_15 => ?_)
                · refine jblk hF [(.iconst 1, 1), (.istore 10, 2)] (by decide +kernel) (pc' := 107) (lo' := [(10, (0, 1)), (0, (2, 35)), (1, (0, f)), (2, (0, first)), (3, (0, a)), (4, (0, many)), (5, (0, o)), (6, (0, p)), (7, (0, m)), (8, (0, n)), (9, (0, n % m))]) (st' := []) rfl ?_
                  have L_17 : ∀ (fu_18 : Nat) (j : Int) (m3 : Int → Int → Int), (1 ≤ j ∧ j ≤ o + 1) → (SR m3) → (MK mem m3 (nearL mem f first a p) o m n) → (m3 61 n = nearL mem f first a p n ∧ ∀ i : Int, 0 ≤ i → i < j → m3 60 (5 * n + i) = bdiff (nearL mem f first a p) i.toNat n) → (∀ i : Int, 0 ≤ i → i ≤ o - (j - 1) → m3 62 i = bdiff (nearL mem f first a p) (j - 1).toNat (n - o + i + (j - 1))) →  (o + 1 - j).toNat < fu_18 → J z g 12 0 0 (QM z g 0 0 (pMV (fun mem' => SR mem' ∧ (MK mem mem' (nearL mem f first a p) o m many)) kd ln sz)) 107 [(0, (2, 35)), (1, (0, f)), (2, (0, first)), (3, (0, a)), (4, (0, many)), (5, (0, o)), (6, (0, p)), (7, (0, m)), (8, (0, n)), (9, (0, n % m)), (10, (0, j))] [] kd ln m3 sz := by
                    intro fu_18
                    induction fu_18 with
                    | zero => intro j m3 _ _ _ _ _ hm; omega
                    | succ fu_18 ih_16 =>
                      intro j m3 hj hR_m3 hK3 hP3 hQ3 hm3
                      refine jblk hF [(.iload 10, 2), (.iload 5, 2)] (by decide +kernel) (pc' := 111) (lo' := [(0, (2, 35)), (1, (0, f)), (2, (0, first)), (3, (0, a)), (4, (0, many)), (5, (0, o)), (6, (0, p)), (7, (0, m)), (8, (0, n)), (9, (0, n % m)), (10, (0, j))]) (st' := [(0, o), (0, j)]) rfl ?_
                      refine jicmp_gt hF (off := 74) 185 (by decide +kernel) (by decide) (by omega) (by omega) (fun h_19 => ?_) (fun h_19 => ?_)
                      · refine jgoto hF (off := 128) 313 (by decide +kernel) (by decide) ?_
                        refine jblk hF [(.iinc 8 1, 3)] (by decide +kernel) (pc' := 316) (lo' := [(8, (0, n + 1)), (0, (2, 35)), (1, (0, f)), (2, (0, first)), (3, (0, a)), (4, (0, many)), (5, (0, o)), (6, (0, p)), (7, (0, m)), (9, (0, n % m)), (10, (0, j))]) (st' := []) rfl ?_
                        refine jgoto hF (off := (-313)) 3 (by decide +kernel) (by decide) ?_
                        refine jsub [1, 2, 3, 4, 5, 6, 7, 8, 0] rfl ?_
                        refine ih_1 (n + 1) m3 ?_ ?_ ?_ ?_
                        · omega
                        · first | exact (hK3.next (by rw [hP3.1, numF_piv (by omega) (by omega) (by omega) (by omega)]) (fun _ j h1 h2 => by rw [hP3.2 j h1 (by omega), rowF_piv (by omega) (by omega) (by omega) (by omega)])).1 | exact (((hK1.put61 _ (Int.le_refl _)).put60 _ (by omega) (by omega)).next (by rw [s2_a (by decide), s2_s, numF_piv (by omega) (by omega) (by omega) (by omega)]) (fun h => absurd h (by omega))).1 | exact ((hK6.put61 _ (Int.le_refl _)).next (by rw [s2_s, numF_made (by omega) (by omega) (by omega) hmd, hK6.2.1 59 _ (by decide) (by decide) (by decide)]; congr 1; rw [← hP6 0 (by omega) (by omega), Int.add_zero]) (fun _ j h1 h2 => by rw [s2_a (by decide)]; exact hP6 j (by omega) h2)).1
                        · first | exact (hK3.next (by rw [hP3.1, numF_piv (by omega) (by omega) (by omega) (by omega)]) (fun _ j h1 h2 => by rw [hP3.2 j h1 (by omega), rowF_piv (by omega) (by omega) (by omega) (by omega)])) | exact (((hK1.put61 _ (Int.le_refl _)).put60 _ (by omega) (by omega)).next (by rw [s2_a (by decide), s2_s, numF_piv (by omega) (by omega) (by omega) (by omega)]) (fun h => absurd h (by omega))) | exact ((hK6.put61 _ (Int.le_refl _)).next (by rw [s2_s, numF_made (by omega) (by omega) (by omega) hmd, hK6.2.1 59 _ (by decide) (by decide) (by decide)]; congr 1; rw [← hP6 0 (by omega) (by omega), Int.add_zero]) (fun _ j h1 h2 => by rw [s2_a (by decide)]; exact hP6 j (by omega) h2))
                        · omega
                      · refine jblk hF [(.iconst 0, 1), (.istore 11, 2)] (by decide +kernel) (pc' := 117) (lo' := [(11, (0, 0)), (0, (2, 35)), (1, (0, f)), (2, (0, first)), (3, (0, a)), (4, (0, many)), (5, (0, o)), (6, (0, p)), (7, (0, m)), (8, (0, n)), (9, (0, n % m)), (10, (0, j))]) (st' := []) rfl ?_
                        have L_21 : ∀ (fu_22 : Nat) (k : Int) (m4 : Int → Int → Int), (0 ≤ k ∧ k ≤ o - j + 1) → (SR m4) → (MK mem m4 (nearL mem f first a p) o m n) → (m4 61 n = nearL mem f first a p n ∧ ∀ i : Int, 0 ≤ i → i < j → m4 60 (5 * n + i) = bdiff (nearL mem f first a p) i.toNat n) → (∀ i : Int, 0 ≤ i → i < k → m4 62 i = bdiff (nearL mem f first a p) j.toNat (n - o + i + j)) → (∀ i : Int, k ≤ i → i ≤ o - (j - 1) → m4 62 i = bdiff (nearL mem f first a p) (j - 1).toNat (n - o + i + (j - 1))) →  (o - j + 1 - k).toNat < fu_22 → J z g 12 0 0 (QM z g 0 0 (pMV (fun mem' => SR mem' ∧ (MK mem mem' (nearL mem f first a p) o m many)) kd ln sz)) 117 [(0, (2, 35)), (1, (0, f)), (2, (0, first)), (3, (0, a)), (4, (0, many)), (5, (0, o)), (6, (0, p)), (7, (0, m)), (8, (0, n)), (9, (0, n % m)), (10, (0, j)), (11, (0, k))] [] kd ln m4 sz := by
                          intro fu_22
                          induction fu_22 with
                          | zero => intro k m4 _ _ _ _ _ _ hm; omega
                          | succ fu_22 ih_20 =>
                            intro k m4 hk4 hR_m4 hK5 hP4 hQ4 hQ5 hm4
                            refine jblk hF [(.iload 11, 2), (.iload 5, 2), (.iload 10, 2), (.isub, 1)] (by decide +kernel) (pc' := 124) (lo' := [(0, (2, 35)), (1, (0, f)), (2, (0, first)), (3, (0, a)), (4, (0, many)), (5, (0, o)), (6, (0, p)), (7, (0, m)), (8, (0, n)), (9, (0, n % m)), (10, (0, j)), (11, (0, k))]) (st' := [(0, o - j), (0, k)]) rfl ?_
                            refine jicmp_gt hF (off := 33) 157 (by decide +kernel) (by decide) (by omega) (by omega) (fun h_23 => ?_) (fun h_23 => ?_)
                            · refine jblk hF [(.aload_n 0, 1)] (by decide +kernel) (pc' := 158) (lo' := [(0, (2, 35)), (1, (0, f)), (2, (0, first)), (3, (0, a)), (4, (0, many)), (5, (0, o)), (6, (0, p)), (7, (0, m)), (8, (0, n)), (9, (0, n % m)), (10, (0, j)), (11, (0, k))]) (st' := [(2, 35)]) rfl ?_
                              refine jget hF 13 36 2 36 rfl (by decide) (by decide) rfl wd_1499 (by decide +kernel) (by exact hS.k35) ?_
                              rw [SR.r36 hR_m4]
                              refine jblk hF [(.iconst 5, 1), (.iload 8, 2), (.imul, 1), (.iload 10, 2), (.iadd, 1), (.aload_n 0, 1)] (by decide +kernel) (pc' := 169) (lo' := [(0, (2, 35)), (1, (0, f)), (2, (0, first)), (3, (0, a)), (4, (0, many)), (5, (0, o)), (6, (0, p)), (7, (0, m)), (8, (0, n)), (9, (0, n % m)), (10, (0, j)), (11, (0, k))]) (st' := [(2, 35), (0, (5 * n) + j), (2, 60)]) rfl ?_
                              refine jget hF 13 38 2 38 rfl (by decide) (by decide) rfl wd_1501 (by decide +kernel) (by exact hS.k35) ?_
                              rw [SR.r38 hR_m4]
                              refine jblk hF [(.iload 5, 2), (.iload 10, 2), (.isub, 1)] (by decide +kernel) (pc' := 177) (lo' := [(0, (2, 35)), (1, (0, f)), (2, (0, first)), (3, (0, a)), (4, (0, many)), (5, (0, o)), (6, (0, p)), (7, (0, m)), (8, (0, n)), (9, (0, n % m)), (10, (0, j)), (11, (0, k))]) (st' := [(0, o - j), (2, 62), (0, (5 * n) + j), (2, 60)]) rfl ?_
                              refine jlald hF (by decide +kernel) (by exact hS.k62) (by omega) (by have := hS.l62; omega) ?_
                              refine jlast hF (by decide +kernel) (by decide) (by exact hS.k60) (by omega) (by have := hS.l60; omega) ?_
                              refine jblk hF [(.iinc 10 1, 3)] (by decide +kernel) (pc' := 182) (lo' := [(10, (0, j + 1)), (0, (2, 35)), (1, (0, f)), (2, (0, first)), (3, (0, a)), (4, (0, many)), (5, (0, o)), (6, (0, p)), (7, (0, m)), (8, (0, n)), (9, (0, n % m)), (11, (0, k))]) (st' := []) rfl ?_
                              refine jgoto hF (off := (-75)) 107 (by decide +kernel) (by decide) ?_
                              refine jsub [1, 2, 3, 4, 5, 6, 7, 8, 9, 10, 0] rfl ?_
                              refine ih_16 (j + 1) (set2 m4 60 ((5 * n) + j) (m4 62 (o - j))) ?_ ?_ ?_ ?_ ?_ ?_
                              · omega
                              · exact (hK5.put60 _ (by omega) (by omega)).1
                              · exact hK5.put60 _ (by omega) (by omega)
                              · exact ⟨by rw [s2_a (by decide)]; exact hP4.1, upto_off (f := fun i => bdiff (nearL mem f first a p) i.toNat n) hP4.2 (by show m4 62 (o - j) = bdiff (nearL mem f first a p) j.toNat n; rw [hQ4 (o - j) (by omega) (by omega)]; congr 1; omega)⟩
                              · intro i h1 h2; rw [s2_a (by decide), hQ4 i h1 (by omega)]; rw [show j + 1 - 1 = j by omega]
                              · omega
                            · refine jblk hF [(.aload_n 0, 1)] (by decide +kernel) (pc' := 128) (lo' := [(0, (2, 35)), (1, (0, f)), (2, (0, first)), (3, (0, a)), (4, (0, many)), (5, (0, o)), (6, (0, p)), (7, (0, m)), (8, (0, n)), (9, (0, n % m)), (10, (0, j)), (11, (0, k))]) (st' := [(2, 35)]) rfl ?_
                              refine jget hF 13 38 2 38 rfl (by decide) (by decide) rfl wd_1501 (by decide +kernel) (by exact hS.k35) ?_
                              rw [SR.r38 hR_m4]
                              refine jblk hF [(.iload 11, 2), (.aload_n 0, 1)] (by decide +kernel) (pc' := 134) (lo' := [(0, (2, 35)), (1, (0, f)), (2, (0, first)), (3, (0, a)), (4, (0, many)), (5, (0, o)), (6, (0, p)), (7, (0, m)), (8, (0, n)), (9, (0, n % m)), (10, (0, j)), (11, (0, k))]) (st' := [(2, 35), (0, k), (2, 62)]) rfl ?_
                              refine jget hF 13 38 2 38 rfl (by decide) (by decide) rfl wd_1501 (by decide +kernel) (by exact hS.k35) ?_
                              rw [SR.r38 hR_m4]
                              refine jblk hF [(.iload 11, 2), (.iconst 1, 1), (.iadd, 1)] (by decide +kernel) (pc' := 141) (lo' := [(0, (2, 35)), (1, (0, f)), (2, (0, first)), (3, (0, a)), (4, (0, many)), (5, (0, o)), (6, (0, p)), (7, (0, m)), (8, (0, n)), (9, (0, n % m)), (10, (0, j)), (11, (0, k))]) (st' := [(0, k + 1), (2, 62), (0, k), (2, 62)]) rfl ?_
                              refine jlald hF (by decide +kernel) (by exact hS.k62) (by omega) (by have := hS.l62; omega) ?_
                              refine jblk hF [(.aload_n 0, 1)] (by decide +kernel) (pc' := 143) (lo' := [(0, (2, 35)), (1, (0, f)), (2, (0, first)), (3, (0, a)), (4, (0, many)), (5, (0, o)), (6, (0, p)), (7, (0, m)), (8, (0, n)), (9, (0, n % m)), (10, (0, j)), (11, (0, k))]) (st' := [(2, 35), (1, m4 62 (k + 1)), (0, k), (2, 62)]) rfl ?_
                              refine jget hF 13 38 2 38 rfl (by decide) (by decide) rfl wd_1501 (by decide +kernel) (by exact hS.k35) ?_
                              rw [SR.r38 hR_m4]
                              refine jblk hF [(.iload 11, 2)] (by decide +kernel) (pc' := 148) (lo' := [(0, (2, 35)), (1, (0, f)), (2, (0, first)), (3, (0, a)), (4, (0, many)), (5, (0, o)), (6, (0, p)), (7, (0, m)), (8, (0, n)), (9, (0, n % m)), (10, (0, j)), (11, (0, k))]) (st' := [(0, k), (2, 62), (1, m4 62 (k + 1)), (0, k), (2, 62)]) rfl ?_
                              refine jlald hF (by decide +kernel) (by exact hS.k62) (by omega) (by have := hS.l62; omega) ?_
                              refine jblk hF [(.lsub, 1)] (by decide +kernel) (pc' := 150) (lo' := [(0, (2, 35)), (1, (0, f)), (2, (0, first)), (3, (0, a)), (4, (0, many)), (5, (0, o)), (6, (0, p)), (7, (0, m)), (8, (0, n)), (9, (0, n % m)), (10, (0, j)), (11, (0, k))]) (st' := [(1, (m4 62 (k + 1)) - (m4 62 k)), (0, k), (2, 62)]) rfl ?_
                              refine jlast hF (by decide +kernel) (by decide) (by exact hS.k62) (by omega) (by have := hS.l62; omega) ?_
                              refine jblk hF [(.iinc 11 1, 3)] (by decide +kernel) (pc' := 154) (lo' := [(11, (0, k + 1)), (0, (2, 35)), (1, (0, f)), (2, (0, first)), (3, (0, a)), (4, (0, many)), (5, (0, o)), (6, (0, p)), (7, (0, m)), (8, (0, n)), (9, (0, n % m)), (10, (0, j))]) (st' := []) rfl ?_
                              refine jgoto hF (off := (-37)) 117 (by decide +kernel) (by decide) ?_
                              refine jsub [1, 2, 3, 4, 5, 6, 7, 8, 9, 10, 11, 0] rfl ?_
                              refine ih_20 (k + 1) (set2 m4 62 k ((m4 62 (k + 1)) - (m4 62 k))) ?_ ?_ ?_ ?_ ?_ ?_ ?_
                              · omega
                              · exact (hK5.put62 _ _).1
                              · exact hK5.put62 _ _
                              · exact ⟨by rw [s2_a (by decide)]; exact hP4.1, fun i h1 h2 => by rw [s2_a (by decide)]; exact hP4.2 i h1 h2⟩
                              · exact upto_put (f := fun i => bdiff (nearL mem f first a p) j.toNat (n - o + i + j)) hQ4 (by show _ = bdiff _ _ _; rw [bdiff_s (by omega), hQ5 (k + 1) (by omega) (by omega), hQ5 k (by omega) (by omega)]; congr 2 <;> omega)
                              · intro i h1 h2; rw [s2_k (by omega)]; exact hQ5 i (by omega) h2
                              · omega
                        refine jsub [1, 2, 3, 4, 5, 6, 7, 8, 9, 10, 11, 0] rfl ?_
                        refine L_21 _ 0 m3 ?_ ?_ ?_ ?_ ?_ ?_ (Nat.lt_succ_self _)
                        · omega
                        · exact hR_m3
                        · exact hK3
                        · exact hP3
                        · intro i h1 h2; omega
                        · exact hQ3
                  refine jsub [1, 2, 3, 4, 5, 6, 7, 8, 9, 10, 0] rfl ?_
                  refine L_17 _ 1 m2 ?_ ?_ ?_ ?_ ?_ (Nat.lt_succ_self _)
                  · omega
                  · exact hR_m2
                  · exact hK2
                  · exact ⟨hP2.1, fun i h1 h2 => by obtain rfl : i = 0 := (by omega); rw [Int.add_zero]; exact hP2.2⟩
                  · intro i h1 h2; rw [hQ2 i h1 (by omega)]; show _ = bdiff _ 0 _; rw [bdiff]; congr 1; omega
                · refine jblk hF [(.aload_n 0, 1)] (by decide +kernel) (pc' := 79) (lo' := [(0, (2, 35)), (1, (0, f)), (2, (0, first)), (3, (0, a)), (4, (0, many)), (5, (0, o)), (6, (0, p)), (7, (0, m)), (8, (0, n)), (9, (0, n % m)), (10, (0, k))]) (st' := [(2, 35)]) rfl ?_
                  refine jget hF 13 38 2 38 rfl (by decide) (by decide) rfl wd_1501 (by decide +kernel) (by exact hS.k35) ?_
                  rw [SR.r38 hR_m2]
                  refine jblk hF [(.iload 10, 2), (.aload_n 0, 1)] (by decide +kernel) (pc' := 85) (lo' := [(0, (2, 35)), (1, (0, f)), (2, (0, first)), (3, (0, a)), (4, (0, many)), (5, (0, o)), (6, (0, p)), (7, (0, m)), (8, (0, n)), (9, (0, n % m)), (10, (0, k))]) (st' := [(2, 35), (0, k), (2, 62)]) rfl ?_
                  refine jget hF 13 37 2 37 rfl (by decide) (by decide) rfl wd_1500 (by decide +kernel) (by exact hS.k35) ?_
                  rw [SR.r37 hR_m2]
                  refine jblk hF [(.iload 8, 2), (.iload 5, 2), (.isub, 1), (.iload 10, 2), (.iadd, 1)] (by decide +kernel) (pc' := 96) (lo' := [(0, (2, 35)), (1, (0, f)), (2, (0, first)), (3, (0, a)), (4, (0, many)), (5, (0, o)), (6, (0, p)), (7, (0, m)), (8, (0, n)), (9, (0, n % m)), (10, (0, k))]) (st' := [(0, (n - o) + k), (2, 61), (0, k), (2, 62)]) rfl ?_
                  refine jlald hF (by decide +kernel) (by exact hS.k61) (by omega) (by have := hS.l61; omega) ?_
                  refine jlast hF (by decide +kernel) (by decide) (by exact hS.k62) (by omega) (by have := hS.l62; omega) ?_
                  refine jblk hF [(.iinc 10 1, 3)] (by decide +kernel) (pc' := 101) (lo' := [(10, (0, k + 1)), (0, (2, 35)), (1, (0, f)), (2, (0, first)), (3, (0, a)), (4, (0, many)), (5, (0, o)), (6, (0, p)), (7, (0, m)), (8, (0, n)), (9, (0, n % m))]) (st' := []) rfl ?_
                  refine jgoto hF (off := (-30)) 71 (by decide +kernel) (by decide) ?_
                  refine jsub [1, 2, 3, 4, 5, 6, 7, 8, 9, 10, 0] rfl ?_
                  refine ih_12 (k + 1) (set2 m2 62 k (m2 61 ((n - o) + k))) ?_ ?_ ?_ ?_ ?_ ?_
                  · omega
                  · exact (hK2.put62 _ _).1
                  · exact hK2.put62 _ _
                  · exact ⟨by rw [s2_a (by decide)]; exact hP2.1, by rw [s2_a (by decide)]; exact hP2.2⟩
                  · exact upto_put (f := fun i => nearL mem f first a p (n - o + i)) hQ2 (hK2.at61 (by omega) (by omega) (by omega) (by omega) hP2.1 (by omega) (by omega) (by omega))
                  · omega
            refine jsub [2, 3, 4, 5, 6, 7, 8, 9, 10, 1, 0] rfl ?_
            refine L_13 _ 0 (set2 (set2 m1 61 n (nearL mem f first a p n)) 60 (5 * n) (nearL mem f first a p n)) ?_ ?_ ?_ ?_ ?_ (Nat.lt_succ_self _)
            · omega
            · exact ((hK1.put61 _ (Int.le_refl _)).put60 _ (by omega) (by omega)).1
            · exact (hK1.put61 _ (Int.le_refl _)).put60 _ (by omega) (by omega)
            · exact ⟨by rw [s2_a (by decide), s2_s], by rw [s2_s]⟩
            · intro i h1 h2; omega
  refine jsub [1, 2, 3, 4, 5, 6, 7, 8, 0] rfl ?_
  refine L_2 _ 0 mem ?_ ?_ ?_ (Nat.lt_succ_self _)
  · omega
  · exact hR
  · exact MK.start hR
end
