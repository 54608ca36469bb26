section
set_option maxHeartbeats 4000000 in
set_option maxRecDepth 100000 in
theorem c_X12_in {l : Launch} {g : GP} (hG : GH g) {kd : Int → Nat} {ln : Int → Int} {mem : Int → Int → Int} {sz : Nat} (v low high : Int) (h_v : InI v) (h_low : InI low) (h_high : InI high) : MT l g yX12_in cX12_in 3 (some .boolean) 0 0 0 [(0, v), (0, low), (0, high)] kd ln mem sz (pB (low ≤ v ∧ v ≤ high) kd ln mem sz) := by
  refine MT_of hG (by decide +kernel) (Nat.le_of_ble_eq_true rfl) (fun z hF hr hn => ?_)
  refine jblk hF [(.iload_n 0, 1), (.iload_n 1, 1)] (by decide +kernel) (pc' := 2) (lo' := [(0, (0, v)), (1, (0, low)), (2, (0, high))]) (st' := [(0, low), (0, v)]) rfl ?_
  refine jicmp_lt hF (off := 12) 14 (by decide +kernel) (by decide) (by omega) (by omega) (fun h_1 => ?_) (fun h_1 => ?_)
  · refine jblk hF [(.iconst 0, 1)] (by decide +kernel) (pc' := 15) (lo' := [(0, (0, v)), (1, (0, low)), (2, (0, high))]) (st' := [(0, 0)]) rfl ?_
    refine jzret hF hr (by omega) (by decide +kernel) ?_
    exact lB0 (by omega)
  · refine jblk hF [(.iload_n 0, 1), (.iload_n 2, 1)] (by decide +kernel) (pc' := 7) (lo' := [(0, (0, v)), (1, (0, low)), (2, (0, high))]) (st' := [(0, high), (0, v)]) rfl ?_
    refine jicmp_gt hF (off := 7) 14 (by decide +kernel) (by decide) (by omega) (by omega) (fun h_2 => ?_) (fun h_2 => ?_)
    · refine jblk hF [(.iconst 0, 1)] (by decide +kernel) (pc' := 15) (lo' := [(0, (0, v)), (1, (0, low)), (2, (0, high))]) (st' := [(0, 0)]) rfl ?_
      refine jzret hF hr (by omega) (by decide +kernel) ?_
      exact lB0 (by omega)
    · refine jblk hF [(.iconst 1, 1)] (by decide +kernel) (pc' := 11) (lo' := [(0, (0, v)), (1, (0, low)), (2, (0, high))]) (st' := [(0, 1)]) rfl ?_
      refine jgoto hF (off := 4) 15 (by decide +kernel) (by decide) ?_
      refine jzret hF hr (by omega) (by decide +kernel) ?_
      exact lB1 (by omega)
set_option maxHeartbeats 4000000 in
set_option maxRecDepth 100000 in
theorem c_X12_known {l : Launch} {g : GP} (hG : GH g) {kd : Int → Nat} {ln : Int → Int} {mem : Int → Int → Int} {sz : Nat} (hS : SK kd ln) (hR : SR mem) (h2 : InI (mem 35 2)) : MT l g yX12_known cX12_known 1 (some .int) 0 0 0 [(2, 35)] kd ln mem sz (pV (0, if mem 35 2 = -1 then mem 35 0 else mem 35 2) kd ln mem sz) := by
  refine MT_of hG (by decide +kernel) (Nat.le_of_ble_eq_true rfl) (fun z hF hr hn => ?_)
  refine jblk hF [(.aload_n 0, 1)] (by decide +kernel) (pc' := 1) (lo' := [(0, (2, 35))]) (st' := [(2, 35)]) rfl ?_
  refine jget hF 13 2 0 2 rfl (by decide) (by decide) rfl wd_1465 (by decide +kernel) (by exact hS.k35) ?_
  refine jblk hF [(.iconst (-1), 1)] (by decide +kernel) (pc' := 5) (lo' := [(0, (2, 35))]) (st' := [(0, (-1)), (0, mem 35 2)]) rfl ?_
  refine jicmp_ne hF (off := 10) 15 (by decide +kernel) (by decide) (by omega) (by decide) (fun h_1 => ?_) (fun h_1 => ?_)
  · refine jblk hF [(.aload_n 0, 1)] (by decide +kernel) (pc' := 16) (lo' := [(0, (2, 35))]) (st' := [(2, 35)]) rfl ?_
    refine jget hF 13 2 0 2 rfl (by decide) (by decide) rfl wd_1465 (by decide +kernel) (by exact hS.k35) ?_
    refine jiret hF hr (by decide +kernel) ?_
    exact lV (by split <;> omega)
  · refine jblk hF [(.aload_n 0, 1)] (by decide +kernel) (pc' := 9) (lo' := [(0, (2, 35))]) (st' := [(2, 35)]) rfl ?_
    refine jget hF 13 0 0 0 rfl (by decide) (by decide) rfl wd_1463 (by decide +kernel) (by exact hS.k35) ?_
    refine jgoto hF (off := 7) 19 (by decide +kernel) (by decide) ?_
    refine jiret hF hr (by decide +kernel) ?_
    exact lV (by split <;> omega)
set_option maxHeartbeats 4000000 in
set_option maxRecDepth 100000 in
theorem c_X12_isKnowing {l : Launch} {g : GP} (hG : GH g) {kd : Int → Nat} {ln : Int → Int} {mem : Int → Int → Int} {sz : Nat} (hS : SK kd ln) (hR : SR mem) (q : Int) (h_q : InI q) (h0 : InI (mem 35 0)) : MT l g yX12_isKnowing cX12_isKnowing 2 (some .boolean) 1 0 0 [(2, 35), (0, q)] kd ln mem sz (pB (0 ≤ q ∧ q ≤ mem 35 0) kd ln mem sz) := by
  refine MT_of hG (by decide +kernel) (Nat.le_of_ble_eq_true rfl) (fun z hF hr hn => ?_)
  refine jblk hF [(.iload_n 1, 1), (.iconst 0, 1), (.aload_n 0, 1)] (by decide +kernel) (pc' := 3) (lo' := [(0, (2, 35)), (1, (0, q))]) (st' := [(2, 35), (0, 0), (0, q)]) rfl ?_
  refine jget hF 13 0 0 0 rfl (by decide) (by decide) rfl wd_1463 (by decide +kernel) (by exact hS.k35) ?_
  refine jcallS hF (c_X12_in hG q 0 (mem 35 0) (by omega) (by decide) (by omega)) MW_X12_in wd_1743 wd_1744 (by decide +kernel) [] rfl rfl (by decide) (Nat.le_of_ble_eq_true rfl) (by decide) (kB (fun h_1 => ?_) (fun h_1 => ?_))
  · refine jzret hF hr (by omega) (by decide +kernel) ?_
    exact lB1 (by omega)
  · refine jzret hF hr (by omega) (by decide +kernel) ?_
    exact lB0 (by omega)
set_option maxHeartbeats 4000000 in
set_option maxRecDepth 100000 in
theorem c_X12_days {l : Launch} {g : GP} (hG : GH g) {kd : Int → Nat} {ln : Int → Int} {mem : Int → Int → Int} {sz : Nat} (hS : SK kd ln) (hR : SR mem) (n : Int) (h_n : InI n) (h0 : 0 ≤ mem 35 0 ∧ mem 35 0 ≤ 1000) : MT l g yX12_days cX12_days 2 (some .int) 1 0 0 [(2, 35), (0, n)] kd ln mem sz (pMR 0 (fun v mem' => SR mem' ∧ (((0 ≤ n ∧ n ≤ 1000 ∧ mem 35 0 + n ≤ 1000) → v = mem 35 0 + n ∧ mem' = set2 mem 35 0 (mem 35 0 + n)) ∧ (¬ (0 ≤ n ∧ n ≤ 1000 ∧ mem 35 0 + n ≤ 1000) → v = -1 ∧ mem' = mem))) kd ln sz) := by
  refine MT_of hG (by decide +kernel) (Nat.le_of_ble_eq_true rfl) (fun z hF hr hn => ?_)
  refine jblk hF [(.iload_n 1, 1), (.iconst 0, 1), (.sipush 1000, 3)] (by decide +kernel) (pc' := 5) (lo' := [(0, (2, 35)), (1, (0, n))]) (st' := [(0, 1000), (0, 0), (0, n)]) rfl ?_
  refine jcallS hF (c_X12_in hG n 0 1000 (by omega) (by decide) (by decide)) MW_X12_in wd_1743 wd_1744 (by decide +kernel) [] rfl rfl (by decide) (Nat.le_of_ble_eq_true rfl) (by decide) (kB (fun h_1 => ?_) (fun h_1 => ?_))
  · refine jif_eq hF (off := 15) 23 (by decide +kernel) (by decide) (by decide) (fun h => absurd h (by decide)) (fun _ => ?_)
    refine jblk hF [(.aload_n 0, 1)] (by decide +kernel) (pc' := 12) (lo' := [(0, (2, 35)), (1, (0, n))]) (st' := [(2, 35)]) rfl ?_
    refine jget hF 13 0 0 0 rfl (by decide) (by decide) rfl wd_1463 (by decide +kernel) (by exact hS.k35) ?_
    refine jblk hF [(.iload_n 1, 1), (.iadd, 1), (.sipush 1000, 3)] (by decide +kernel) (pc' := 20) (lo' := [(0, (2, 35)), (1, (0, n))]) (st' := [(0, 1000), (0, (mem 35 0) + n)]) rfl ?_
    refine jicmp_le hF (off := 5) 25 (by decide +kernel) (by decide) (by omega) (by decide) (fun h_3 => ?_) (fun h_3 => ?_)
    · refine jblk hF [(.aload_n 0, 1), (.dup, 1)] (by decide +kernel) (pc' := 27) (lo' := [(0, (2, 35)), (1, (0, n))]) (st' := [(2, 35), (2, 35)]) rfl ?_
      refine jget hF 13 0 0 0 rfl (by decide) (by decide) rfl wd_1463 (by decide +kernel) (by exact hS.k35) ?_
      refine jblk hF [(.iload_n 1, 1), (.iadd, 1)] (by decide +kernel) (pc' := 32) (lo' := [(0, (2, 35)), (1, (0, n))]) (st' := [(0, (mem 35 0) + n), (2, 35)]) rfl ?_
      refine jput hF 13 0 0 0 rfl (by decide) (by decide) rfl wd_1463 (by decide +kernel) rfl (Or.inl rfl) (by exact hS.k35) (fun h => by cases h) ?_
      refine jblk hF [(.aload_n 0, 1)] (by decide +kernel) (pc' := 36) (lo' := [(0, (2, 35)), (1, (0, n))]) (st' := [(2, 35)]) rfl ?_
      refine jget hF 13 0 0 0 rfl (by decide) (by decide) rfl wd_1463 (by decide +kernel) (by exact hS.k35) ?_
      rw [show (set2 mem 35 0 ((mem 35 0) + n)) 35 0 = (mem 35 0) + n from s2_s]
      refine jiret hF hr (by decide +kernel) ?_
      exact lMR ⟨(SR.s hR (Or.inr (by decide))), by first | exact ⟨fun h => absurd h (by omega), fun _ => ⟨rfl, rfl⟩⟩ | exact ⟨fun _ => ⟨rfl, rfl⟩, fun h => absurd (by omega) h⟩⟩
    · refine jblk hF [(.iconst (-1), 1)] (by decide +kernel) (pc' := 24) (lo' := [(0, (2, 35)), (1, (0, n))]) (st' := [(0, (-1))]) rfl ?_
      refine jiret hF hr (by decide +kernel) ?_
      exact lMR ⟨hR, by first | exact ⟨fun h => absurd h (by omega), fun _ => ⟨rfl, rfl⟩⟩ | exact ⟨fun _ => ⟨rfl, rfl⟩, fun h => absurd (by omega) h⟩⟩
  · refine jif_eq hF (off := 15) 23 (by decide +kernel) (by decide) (by decide) (fun _ => ?_) (fun h => absurd h (by decide))
    refine jblk hF [(.iconst (-1), 1)] (by decide +kernel) (pc' := 24) (lo' := [(0, (2, 35)), (1, (0, n))]) (st' := [(0, (-1))]) rfl ?_
    refine jiret hF hr (by decide +kernel) ?_
    exact lMR ⟨hR, by first | exact ⟨fun h => absurd h (by omega), fun _ => ⟨rfl, rfl⟩⟩ | exact ⟨fun _ => ⟨rfl, rfl⟩, fun h => absurd (by omega) h⟩⟩
set_option maxHeartbeats 4000000 in
set_option maxRecDepth 100000 in
theorem c_X12_as {l : Launch} {g : GP} (hG : GH g) {kd : Int → Nat} {ln : Int → Int} {mem : Int → Int → Int} {sz : Nat} (hS : SK kd ln) (hR : SR mem) (day : Int) (h_d : InI day) (h0 : 0 ≤ mem 35 0 ∧ mem 35 0 ≤ 1000) : MT l g yX12_as cX12_as 2 (some .boolean) 1 0 0 [(2, 35), (0, day)] kd ln mem sz (pMB (fun c mem' => SR mem' ∧ ((c ↔ (-1 ≤ day ∧ day ≤ mem 35 0)) ∧ mem' = (if (-1 ≤ day ∧ day ≤ mem 35 0) then set2 mem 35 2 day else mem))) kd ln sz) := by
  refine MT_of hG (by decide +kernel) (Nat.le_of_ble_eq_true rfl) (fun z hF hr hn => ?_)
  refine jblk hF [(.iload_n 1, 1), (.iconst (-1), 1), (.aload_n 0, 1)] (by decide +kernel) (pc' := 3) (lo' := [(0, (2, 35)), (1, (0, day))]) (st' := [(2, 35), (0, (-1)), (0, day)]) rfl ?_
  refine jget hF 13 0 0 0 rfl (by decide) (by decide) rfl wd_1463 (by decide +kernel) (by exact hS.k35) ?_
  refine jcallS hF (c_X12_in hG day (-1) (mem 35 0) (by omega) (by decide) (by omega)) MW_X12_in wd_1743 wd_1744 (by decide +kernel) [] rfl rfl (by decide) (Nat.le_of_ble_eq_true rfl) (by decide) (kB (fun h_1 => ?_) (fun h_1 => ?_))
  · refine jif_ne hF (off := 5) 14 (by decide +kernel) (by decide) (by decide) (fun _ => ?_) (fun h => absurd h (by decide))
    refine jblk hF [(.aload_n 0, 1), (.iload_n 1, 1)] (by decide +kernel) (pc' := 16) (lo' := [(0, (2, 35)), (1, (0, day))]) (st' := [(0, day), (2, 35)]) rfl ?_
    refine jput hF 13 2 0 2 rfl (by decide) (by decide) rfl wd_1465 (by decide +kernel) rfl (Or.inl rfl) (by exact hS.k35) (fun h => by cases h) ?_
    refine jblk hF [(.iconst 1, 1)] (by decide +kernel) (pc' := 20) (lo' := [(0, (2, 35)), (1, (0, day))]) (st' := [(0, 1)]) rfl ?_
    refine jzret hF hr (by omega) (by decide +kernel) ?_
    exact lMB1 ⟨(SR.s hR (Or.inr (by decide))), by first | exact ⟨⟨fun h => h.elim, fun h => absurd h (by omega)⟩, (if_neg (by omega)).symm⟩ | exact ⟨⟨fun _ => by omega, fun _ => trivial⟩, (if_pos (by omega)).symm⟩⟩
  · refine jif_ne hF (off := 5) 14 (by decide +kernel) (by decide) (by decide) (fun h => absurd h (by decide)) (fun _ => ?_)
    refine jblk hF [(.iconst 0, 1)] (by decide +kernel) (pc' := 13) (lo' := [(0, (2, 35)), (1, (0, day))]) (st' := [(0, 0)]) rfl ?_
    refine jzret hF hr (by omega) (by decide +kernel) ?_
    exact lMB0 ⟨hR, by first | exact ⟨⟨fun h => h.elim, fun h => absurd h (by omega)⟩, (if_neg (by omega)).symm⟩ | exact ⟨⟨fun _ => by omega, fun _ => trivial⟩, (if_pos (by omega)).symm⟩⟩
set_option maxHeartbeats 4000000 in
set_option maxRecDepth 100000 in
theorem c_X12_ten {l : Launch} {g : GP} (hG : GH g) {kd : Int → Nat} {ln : Int → Int} {mem : Int → Int → Int} {sz : Nat} (p : Int) (hp : 0 ≤ p ∧ p ≤ 18) : MT l g yX12_ten cX12_ten 4 (some .long) 0 0 0 [(0, p)] kd ln mem sz (pV (1, 10 ^ p.toNat) kd ln mem sz) := by
  refine MT_of hG (by decide +kernel) (Nat.le_of_ble_eq_true rfl) (fun z hF hr hn => ?_)
  refine jlconst hF (n := 1) 1 rfl (by decide +kernel) ?_
  refine jblk hF [(.lstore_n 1, 1), (.iconst 0, 1), (.istore_n 3, 1)] (by decide +kernel) (pc' := 4) (lo' := [(3, (0, 0)), (1, (1, 1)), (0, (0, p))]) (st' := []) rfl ?_
  have L_2 : ∀ (fu_3 : Nat) (v : Int) (k : Int), (0 ≤ k ∧ k ≤ p) → (v = 10 ^ k.toNat) →  (p - k).toNat < fu_3 → J z g 4 0 0 (QM z g 0 0 (pV (1, 10 ^ p.toNat) kd ln mem sz)) 4 [(0, (0, p)), (1, (1, v)), (3, (0, k))] [] kd ln mem sz := by
    intro fu_3
    induction fu_3 with
    | zero => intro v k _ _ hm; omega
    | succ fu_3 ih_1 =>
      intro v k hk hv hm
      refine jblk hF [(.iload_n 3, 1), (.iload_n 0, 1)] (by decide +kernel) (pc' := 6) (lo' := [(0, (0, p)), (1, (1, v)), (3, (0, k))]) (st' := [(0, p), (0, k)]) rfl ?_
      refine jicmp_ge hF (off := 15) 21 (by decide +kernel) (by decide) (by omega) (by omega) (fun h_4 => ?_) (fun h_4 => ?_)
      · refine jblk hF [(.lload_n 1, 1)] (by decide +kernel) (pc' := 22) (lo' := [(0, (0, p)), (1, (1, v)), (3, (0, k))]) (st' := [(1, v)]) rfl ?_
        refine jlret hF hr (by decide +kernel) ?_
        exact lV (by rw [hv]; congr 1; omega)
      · refine jblk hF [(.lload_n 1, 1)] (by decide +kernel) (pc' := 10) (lo' := [(0, (0, p)), (1, (1, v)), (3, (0, k))]) (st' := [(1, v)]) rfl ?_
        refine jldc2 hF 10 (cst_l wd_1777 (by decide)) (by decide +kernel) ?_
        refine jblk hF [(.lmul, 1), (.lstore_n 1, 1), (.iinc 3 1, 3)] (by decide +kernel) (pc' := 18) (lo' := [(3, (0, k + 1)), (1, (1, v * 10)), (0, (0, p))]) (st' := []) rfl ?_
        refine jgoto hF (off := (-14)) 4 (by decide +kernel) (by decide) ?_
        refine jsub [2, 1, 0] rfl ?_
        refine ih_1 (v * 10) (k + 1) ?_ ?_ ?_
        · omega
        · rw [hv, ← Int.pow_succ]; congr 1; omega
        · omega
  refine jsub [2, 1, 0] rfl ?_
  refine L_2 _ 1 0 ?_ ?_ (Nat.lt_succ_self _)
  · omega
  · rfl
set_option maxHeartbeats 4000000 in
set_option maxRecDepth 100000 in
theorem c_X12_thrown {l : Launch} {g : GP} (hG : GH g) {kd : Int → Nat} {ln : Int → Int} {mem : Int → Int → Int} {sz : Nat} (hS : SK kd ln) (hR : SR mem) : MT l g yX12_thrown cX12_thrown 1 (some .int) 0 0 0 [(2, 35)] kd ln mem sz (pV (0, mem 35 1) kd ln mem sz) := by
  refine MT_of hG (by decide +kernel) (Nat.le_of_ble_eq_true rfl) (fun z hF hr hn => ?_)
  refine jblk hF [(.aload_n 0, 1)] (by decide +kernel) (pc' := 1) (lo' := [(0, (2, 35))]) (st' := [(2, 35)]) rfl ?_
  refine jget hF 13 1 0 1 rfl (by decide) (by decide) rfl wd_1464 (by decide +kernel) (by exact hS.k35) ?_
  refine jiret hF hr (by decide +kernel) ?_
  exact lV (by rfl)
set_option maxHeartbeats 4000000 in
set_option maxRecDepth 100000 in
theorem c_X12_root {l : Launch} {g : GP} (hG : GH g) {kd : Int → Nat} {ln : Int → Int} {mem : Int → Int → Int} {sz : Nat} (v : Int) (h_v : 0 ≤ v ∧ v ≤ 990000000000000000) : MT l g yX12_root cX12_root 8 (some .long) 0 0 0 [(1, v)] kd ln mem sz (pV (1, isq v) kd ln mem sz) := by
  refine MT_of hG (by decide +kernel) (Nat.le_of_ble_eq_true rfl) (fun z hF hr hn => ?_)
  refine jlconst hF (n := 0) 0 rfl (by decide +kernel) ?_
  refine jblk hF [(.lstore_n 2, 1)] (by decide +kernel) (pc' := 2) (lo' := [(2, (1, 0)), (0, (1, v))]) (st' := []) rfl ?_
  refine jldc2 hF 2000000000 (cst_l wd_1781 (by decide)) (by decide +kernel) ?_
  refine jblk hF [(.lstore 4, 2)] (by decide +kernel) (pc' := 7) (lo' := [(4, (1, 2000000000)), (2, (1, 0)), (0, (1, v))]) (st' := []) rfl ?_
  have L_2 : ∀ (fu_3 : Nat) (lw : Int) (hh : Int), (0 ≤ lw ∧ lw < hh ∧ hh ≤ 2000000000) → (lw * lw ≤ v) → (v < hh * hh) →  (hh - lw).toNat < fu_3 → J z g 8 0 0 (QM z g 0 0 (pV (1, isq v) kd ln mem sz)) 7 [(0, (1, v)), (2, (1, lw)), (4, (1, hh))] [] kd ln mem sz := by
    intro fu_3
    induction fu_3 with
    | zero => intro lw hh _ _ _ hm; omega
    | succ fu_3 ih_1 =>
      intro lw hh h1 h2 h3 hm
      refine jblk hF [(.lload 4, 2), (.lload_n 2, 1), (.lsub, 1)] (by decide +kernel) (pc' := 11) (lo' := [(0, (1, v)), (2, (1, lw)), (4, (1, hh))]) (st' := [(1, hh - lw)]) rfl ?_
      refine jlconst hF (n := 1) 1 rfl (by decide +kernel) ?_
      refine jlcmp_le hF (off := 36) 49 (by decide +kernel) (by decide +kernel) (by decide) (by omega) (by decide) (fun h_4 => ?_) (fun h_4 => ?_)
      · refine jblk hF [(.lload_n 2, 1)] (by decide +kernel) (pc' := 50) (lo' := [(0, (1, v)), (2, (1, lw)), (4, (1, hh))]) (st' := [(1, lw)]) rfl ?_
        refine jlret hF hr (by decide +kernel) ?_
        exact lV (by have e : hh = lw + 1 := (by omega); subst e; exact (isq_uniq h1.1 h2 h3).symm)
      · refine jblk hF [(.lload_n 2, 1), (.lload 4, 2), (.ladd, 1)] (by decide +kernel) (pc' := 20) (lo' := [(0, (1, v)), (2, (1, lw)), (4, (1, hh))]) (st' := [(1, lw + hh)]) rfl ?_
        refine jldc2 hF 2 (cst_l wd_1782 (by decide)) (by decide +kernel) ?_
        refine jldivN hF (by decide +kernel) (by omega) (by omega) ?_
        refine jblk hF [(.lstore 6, 2)] (by decide +kernel) (pc' := 26) (lo' := [(6, (1, (lw + hh) / 2)), (0, (1, v)), (2, (1, lw)), (4, (1, hh))]) (st' := []) rfl ?_
        have hq := sq_mono (a := (lw + hh) / 2) (b := 2000000000) (by omega) (by omega)
        have hq0 := Int.mul_nonneg (show (0 : Int) ≤ (lw + hh) / 2 by omega) (show (0 : Int) ≤ (lw + hh) / 2 by omega)
        refine jblk hF [(.lload 6, 2), (.lload 6, 2), (.lmul, 1), (.lload_n 0, 1)] (by decide +kernel) (pc' := 32) (lo' := [(6, (1, (lw + hh) / 2)), (0, (1, v)), (2, (1, lw)), (4, (1, hh))]) (st' := [(1, v), (1, ((lw + hh) / 2) * ((lw + hh) / 2))]) rfl ?_
        refine jlcmp_gt hF (off := 9) 42 (by decide +kernel) (by decide +kernel) (by decide) (by omega) (by omega) (fun h_5 => ?_) (fun h_5 => ?_)
        · refine jblk hF [(.lload 6, 2), (.lstore 4, 2)] (by decide +kernel) (pc' := 46) (lo' := [(4, (1, (lw + hh) / 2)), (6, (1, (lw + hh) / 2)), (0, (1, v)), (2, (1, lw))]) (st' := []) rfl ?_
          refine jgoto hF (off := (-39)) 7 (by decide +kernel) (by decide) ?_
          refine jsub [2, 3, 0] rfl ?_
          refine ih_1 lw ((lw + hh) / 2) ?_ ?_ ?_ ?_
          · omega
          · omega
          · omega
          · omega
        · refine jblk hF [(.lload 6, 2), (.lstore_n 2, 1)] (by decide +kernel) (pc' := 39) (lo' := [(2, (1, (lw + hh) / 2)), (6, (1, (lw + hh) / 2)), (0, (1, v)), (4, (1, hh))]) (st' := []) rfl ?_
          refine jgoto hF (off := 7) 46 (by decide +kernel) (by decide) ?_
          refine jgoto hF (off := (-39)) 7 (by decide +kernel) (by decide) ?_
          refine jsub [2, 0, 3] rfl ?_
          refine ih_1 ((lw + hh) / 2) hh ?_ ?_ ?_ ?_
          · omega
          · omega
          · omega
          · omega
  refine jsub [2, 1, 0] rfl ?_
  refine L_2 _ 0 2000000000 ?_ ?_ ?_ (Nat.lt_succ_self _)
  · omega
  · omega
  · omega
set_option maxHeartbeats 4000000 in
set_option maxRecDepth 100000 in
theorem c_X12_under {l : Launch} {g : GP} (hG : GH g) {kd : Int → Nat} {ln : Int → Int} {mem : Int → Int → Int} {sz : Nat} (hS : SK kd ln) (hR : SR mem) (f x p : Int) (hf : FN mem f) (hx : XP x p) : MT l g yX12_under cX12_under 4 (some .long) 1 0 0 [(2, 35), (0, f), (0, x), (0, p)] kd ln mem sz (pV (1, underV (mem 37 f) (mem 38 f) x p) kd ln mem sz) := by
  refine MT_of hG (by decide +kernel) (Nat.le_of_ble_eq_true rfl) (fun z hF hr hn => ?_)
  refine jblk hF [(.aload_n 0, 1)] (by decide +kernel) (pc' := 1) (lo' := [(0, (2, 35)), (1, (0, f)), (2, (0, x)), (3, (0, p))]) (st' := [(2, 35)]) rfl ?_
  refine jget hF 13 4 2 4 rfl (by decide) (by decide) rfl wd_1467 (by decide +kernel) (by exact hS.k35) ?_
  rw [SR.r4 hR]
  refine jblk hF [(.iload_n 1, 1)] (by decide +kernel) (pc' := 5) (lo' := [(0, (2, 35)), (1, (0, f)), (2, (0, x)), (3, (0, p))]) (st' := [(0, f), (2, 37)]) rfl ?_
  refine jiald hF (by decide +kernel) (by exact hS.k37) (by omega) (by have := hS.l37; omega) ?_
  refine ji2l hF (by decide +kernel) (by omega) ?_
  refine jblk hF [(.iload_n 2, 1)] (by decide +kernel) (pc' := 8) (lo' := [(0, (2, 35)), (1, (0, f)), (2, (0, x)), (3, (0, p))]) (st' := [(0, x), (1, mem 37 f)]) rfl ?_
  refine ji2l hF (by decide +kernel) (by omega) ?_
  refine jblk hF [(.lmul, 1), (.aload_n 0, 1)] (by decide +kernel) (pc' := 11) (lo' := [(0, (2, 35)), (1, (0, f)), (2, (0, x)), (3, (0, p))]) (st' := [(2, 35), (1, (mem 37 f) * x)]) rfl ?_
  refine jget hF 13 5 2 5 rfl (by decide) (by decide) rfl wd_1468 (by decide +kernel) (by exact hS.k35) ?_
  rw [SR.r5 hR]
  refine jblk hF [(.iload_n 1, 1)] (by decide +kernel) (pc' := 15) (lo' := [(0, (2, 35)), (1, (0, f)), (2, (0, x)), (3, (0, p))]) (st' := [(0, f), (2, 38), (1, (mem 37 f) * x)]) rfl ?_
  refine jiald hF (by decide +kernel) (by exact hS.k38) (by omega) (by have := hS.l38; omega) ?_
  refine ji2l hF (by decide +kernel) (by omega) ?_
  refine jblk hF [(.ladd, 1), (.iconst 2, 1), (.iload_n 3, 1), (.imul, 1)] (by decide +kernel) (pc' := 21) (lo' := [(0, (2, 35)), (1, (0, f)), (2, (0, x)), (3, (0, p))]) (st' := [(0, 2 * p), (1, ((mem 37 f) * x) + (mem 38 f))]) rfl ?_
  refine jcallS hF (c_X12_ten hG (2 * p) (by omega)) MW_X12_ten wd_1774 wd_1775 (by decide +kernel) [(1, ((mem 37 f) * x) + (mem 38 f))] rfl rfl (by decide) (Nat.le_of_ble_eq_true rfl) (by decide) (kV ?_)
  refine jblk hF [(.lmul, 1)] (by decide +kernel) (pc' := 25) (lo' := [(0, (2, 35)), (1, (0, f)), (2, (0, x)), (3, (0, p))]) (st' := [(1, (((mem 37 f) * x) + (mem 38 f)) * (10 ^ (2 * p).toNat))]) rfl ?_
  refine jlret hF hr (by decide +kernel) ?_
  exact lV (by rfl)
set_option maxHeartbeats 4000000 in
set_option maxRecDepth 100000 in
theorem c_X12_above {l : Launch} {g : GP} (hG : GH g) {kd : Int → Nat} {ln : Int → Int} {mem : Int → Int → Int} {sz : Nat} (hS : SK kd ln) (hR : SR mem) (f x p : Int) (hf : FN mem f) (hx : XP x p) : MT l g yX12_above cX12_above 4 (some .long) 1 0 0 [(2, 35), (0, f), (0, x), (0, p)] kd ln mem sz (pV (1, aboveV (mem 36 f) (mem 37 f) (mem 38 f) x p) kd ln mem sz) := by
  refine MT_of hG (by decide +kernel) (Nat.le_of_ble_eq_true rfl) (fun z hF hr hn => ?_)
  refine jblk hF [(.aload_n 0, 1)] (by decide +kernel) (pc' := 1) (lo' := [(0, (2, 35)), (1, (0, f)), (2, (0, x)), (3, (0, p))]) (st' := [(2, 35)]) rfl ?_
  refine jget hF 13 3 2 3 rfl (by decide) (by decide) rfl wd_1466 (by decide +kernel) (by exact hS.k35) ?_
  rw [SR.r3 hR]
  refine jblk hF [(.iload_n 1, 1)] (by decide +kernel) (pc' := 5) (lo' := [(0, (2, 35)), (1, (0, f)), (2, (0, x)), (3, (0, p))]) (st' := [(0, f), (2, 36)]) rfl ?_
  refine jiald hF (by decide +kernel) (by exact hS.k36) (by omega) (by have := hS.l36; omega) ?_
  refine jblk hF [(.iconst 1, 1)] (by decide +kernel) (pc' := 7) (lo' := [(0, (2, 35)), (1, (0, f)), (2, (0, x)), (3, (0, p))]) (st' := [(0, 1), (0, mem 36 f)]) rfl ?_
  refine jicmp_ne hF (off := 22) 29 (by decide +kernel) (by decide) (by omega) (by decide) (fun h_1 => ?_) (fun h_1 => ?_)
  · refine jblk hF [(.iload_n 2, 1)] (by decide +kernel) (pc' := 30) (lo' := [(0, (2, 35)), (1, (0, f)), (2, (0, x)), (3, (0, p))]) (st' := [(0, x)]) rfl ?_
    refine ji2l hF (by decide +kernel) (by omega) ?_
    refine jblk hF [(.iload_n 2, 1)] (by decide +kernel) (pc' := 32) (lo' := [(0, (2, 35)), (1, (0, f)), (2, (0, x)), (3, (0, p))]) (st' := [(0, x), (1, x)]) rfl ?_
    refine ji2l hF (by decide +kernel) (by omega) ?_
    refine jblk hF [(.lmul, 1), (.aload_n 0, 1)] (by decide +kernel) (pc' := 35) (lo' := [(0, (2, 35)), (1, (0, f)), (2, (0, x)), (3, (0, p))]) (st' := [(2, 35), (1, x * x)]) rfl ?_
    refine jget hF 13 4 2 4 rfl (by decide) (by decide) rfl wd_1467 (by decide +kernel) (by exact hS.k35) ?_
    rw [SR.r4 hR]
    refine jblk hF [(.iload_n 1, 1)] (by decide +kernel) (pc' := 39) (lo' := [(0, (2, 35)), (1, (0, f)), (2, (0, x)), (3, (0, p))]) (st' := [(0, f), (2, 37), (1, x * x)]) rfl ?_
    refine jiald hF (by decide +kernel) (by exact hS.k37) (by omega) (by have := hS.l37; omega) ?_
    refine ji2l hF (by decide +kernel) (by omega) ?_
    refine jblk hF [(.iload_n 2, 1)] (by decide +kernel) (pc' := 42) (lo' := [(0, (2, 35)), (1, (0, f)), (2, (0, x)), (3, (0, p))]) (st' := [(0, x), (1, mem 37 f), (1, x * x)]) rfl ?_
    refine ji2l hF (by decide +kernel) (by omega) ?_
    refine jblk hF [(.lmul, 1), (.ladd, 1), (.aload_n 0, 1)] (by decide +kernel) (pc' := 46) (lo' := [(0, (2, 35)), (1, (0, f)), (2, (0, x)), (3, (0, p))]) (st' := [(2, 35), (1, (x * x) + ((mem 37 f) * x))]) rfl ?_
    refine jget hF 13 5 2 5 rfl (by decide) (by decide) rfl wd_1468 (by decide +kernel) (by exact hS.k35) ?_
    rw [SR.r5 hR]
    refine jblk hF [(.iload_n 1, 1)] (by decide +kernel) (pc' := 50) (lo' := [(0, (2, 35)), (1, (0, f)), (2, (0, x)), (3, (0, p))]) (st' := [(0, f), (2, 38), (1, (x * x) + ((mem 37 f) * x))]) rfl ?_
    refine jiald hF (by decide +kernel) (by exact hS.k38) (by omega) (by have := hS.l38; omega) ?_
    refine ji2l hF (by decide +kernel) (by omega) ?_
    refine jblk hF [(.ladd, 1), (.iload_n 3, 1)] (by decide +kernel) (pc' := 54) (lo' := [(0, (2, 35)), (1, (0, f)), (2, (0, x)), (3, (0, p))]) (st' := [(0, p), (1, ((x * x) + ((mem 37 f) * x)) + (mem 38 f))]) rfl ?_
    refine jcallS hF (c_X12_ten hG p (by omega)) MW_X12_ten wd_1774 wd_1775 (by decide +kernel) [(1, ((x * x) + ((mem 37 f) * x)) + (mem 38 f))] rfl rfl (by decide) (Nat.le_of_ble_eq_true rfl) (by decide) (kV ?_)
    refine jblk hF [(.lmul, 1)] (by decide +kernel) (pc' := 58) (lo' := [(0, (2, 35)), (1, (0, f)), (2, (0, x)), (3, (0, p))]) (st' := [(1, (((x * x) + ((mem 37 f) * x)) + (mem 38 f)) * (10 ^ p.toNat))]) rfl ?_
    refine jlret hF hr (by decide +kernel) ?_
    exact lV (by first | exact (if_pos (by omega)).symm | exact (if_neg (by omega)).symm)
  · refine jldc2 hF 1000 (cst_l wd_1787 (by decide)) (by decide +kernel) ?_
    refine jblk hF [(.aload_n 0, 1)] (by decide +kernel) (pc' := 14) (lo' := [(0, (2, 35)), (1, (0, f)), (2, (0, x)), (3, (0, p))]) (st' := [(2, 35), (1, 1000)]) rfl ?_
    refine jget hF 13 4 2 4 rfl (by decide) (by decide) rfl wd_1467 (by decide +kernel) (by exact hS.k35) ?_
    rw [SR.r4 hR]
    refine jblk hF [(.iload_n 1, 1)] (by decide +kernel) (pc' := 18) (lo' := [(0, (2, 35)), (1, (0, f)), (2, (0, x)), (3, (0, p))]) (st' := [(0, f), (2, 37), (1, 1000)]) rfl ?_
    refine jiald hF (by decide +kernel) (by exact hS.k37) (by omega) (by have := hS.l37; omega) ?_
    refine ji2l hF (by decide +kernel) (by omega) ?_
    refine jblk hF [(.lmul, 1), (.iload_n 3, 1)] (by decide +kernel) (pc' := 22) (lo' := [(0, (2, 35)), (1, (0, f)), (2, (0, x)), (3, (0, p))]) (st' := [(0, p), (1, 1000 * (mem 37 f))]) rfl ?_
    refine jcallS hF (c_X12_ten hG p (by omega)) MW_X12_ten wd_1774 wd_1775 (by decide +kernel) [(1, 1000 * (mem 37 f))] rfl rfl (by decide) (Nat.le_of_ble_eq_true rfl) (by decide) (kV ?_)
    refine jblk hF [(.lmul, 1)] (by decide +kernel) (pc' := 26) (lo' := [(0, (2, 35)), (1, (0, f)), (2, (0, x)), (3, (0, p))]) (st' := [(1, (1000 * (mem 37 f)) * (10 ^ p.toNat))]) rfl ?_
    refine jgoto hF (off := 32) 58 (by decide +kernel) (by decide) ?_
    refine jlret hF hr (by decide +kernel) ?_
    exact lV (by first | exact (if_pos (by omega)).symm | exact (if_neg (by omega)).symm)
set_option maxHeartbeats 4000000 in
set_option maxRecDepth 100000 in
theorem c_X12_below {l : Launch} {g : GP} (hG : GH g) {kd : Int → Nat} {ln : Int → Int} {mem : Int → Int → Int} {sz : Nat} (hS : SK kd ln) (hR : SR mem) (f x : Int) (hf : FN mem f) (hx : 1 ≤ x ∧ x ≤ 9999) : MT l g yX12_below cX12_below 3 (some .long) 0 0 0 [(2, 35), (0, f), (0, x)] kd ln mem sz (pV (1, belowV (mem 36 f) (mem 38 f) x) kd ln mem sz) := by
  refine MT_of hG (by decide +kernel) (Nat.le_of_ble_eq_true rfl) (fun z hF hr hn => ?_)
  refine jblk hF [(.aload_n 0, 1)] (by decide +kernel) (pc' := 1) (lo' := [(0, (2, 35)), (1, (0, f)), (2, (0, x))]) (st' := [(2, 35)]) rfl ?_
  refine jget hF 13 3 2 3 rfl (by decide) (by decide) rfl wd_1466 (by decide +kernel) (by exact hS.k35) ?_
  rw [SR.r3 hR]
  refine jblk hF [(.iload_n 1, 1)] (by decide +kernel) (pc' := 5) (lo' := [(0, (2, 35)), (1, (0, f)), (2, (0, x))]) (st' := [(0, f), (2, 36)]) rfl ?_
  refine jiald hF (by decide +kernel) (by exact hS.k36) (by omega) (by have := hS.l36; omega) ?_
  refine jblk hF [(.iconst 1, 1)] (by decide +kernel) (pc' := 7) (lo' := [(0, (2, 35)), (1, (0, f)), (2, (0, x))]) (st' := [(0, 1), (0, mem 36 f)]) rfl ?_
  refine jicmp_ne hF (off := 16) 23 (by decide +kernel) (by decide) (by omega) (by decide) (fun h_1 => ?_) (fun h_1 => ?_)
  · refine jldc2 hF 7 (cst_l wd_1792 (by decide)) (by decide +kernel) ?_
    refine jlret hF hr (by decide +kernel) ?_
    exact lV (by unfold belowV; split <;> omega)
  · refine jblk hF [(.iload_n 2, 1)] (by decide +kernel) (pc' := 11) (lo' := [(0, (2, 35)), (1, (0, f)), (2, (0, x))]) (st' := [(0, x)]) rfl ?_
    refine ji2l hF (by decide +kernel) (by omega) ?_
    refine jblk hF [(.aload_n 0, 1)] (by decide +kernel) (pc' := 13) (lo' := [(0, (2, 35)), (1, (0, f)), (2, (0, x))]) (st' := [(2, 35), (1, x)]) rfl ?_
    refine jget hF 13 5 2 5 rfl (by decide) (by decide) rfl wd_1468 (by decide +kernel) (by exact hS.k35) ?_
    rw [SR.r5 hR]
    refine jblk hF [(.iload_n 1, 1)] (by decide +kernel) (pc' := 17) (lo' := [(0, (2, 35)), (1, (0, f)), (2, (0, x))]) (st' := [(0, f), (2, 38), (1, x)]) rfl ?_
    refine jiald hF (by decide +kernel) (by exact hS.k38) (by omega) (by have := hS.l38; omega) ?_
    refine ji2l hF (by decide +kernel) (by omega) ?_
    refine jblk hF [(.ladd, 1)] (by decide +kernel) (pc' := 20) (lo' := [(0, (2, 35)), (1, (0, f)), (2, (0, x))]) (st' := [(1, x + (mem 38 f))]) rfl ?_
    refine jgoto hF (off := 6) 26 (by decide +kernel) (by decide) ?_
    refine jlret hF hr (by decide +kernel) ?_
    exact lV (by unfold belowV; split <;> omega)
set_option maxHeartbeats 4000000 in
set_option maxRecDepth 100000 in
theorem c_X12_exactOf {l : Launch} {g : GP} (hG : GH g) {kd : Int → Nat} {ln : Int → Int} {mem : Int → Int → Int} {sz : Nat} (hS : SK kd ln) (hR : SR mem) (f x p : Int) (hf : FN mem f) (hx : XP x p) : MT l g yX12_exactOf cX12_exactOf 4 (some .long) 2 0 0 [(2, 35), (0, f), (0, x), (0, p)] kd ln mem sz (pV (1, exactV (mem 36 f) (mem 37 f) (mem 38 f) x p) kd ln mem sz) := by
  refine MT_of hG (by decide +kernel) (Nat.le_of_ble_eq_true rfl) (fun z hF hr hn => ?_)
  refine jblk hF [(.aload_n 0, 1)] (by decide +kernel) (pc' := 1) (lo' := [(0, (2, 35)), (1, (0, f)), (2, (0, x)), (3, (0, p))]) (st' := [(2, 35)]) rfl ?_
  refine jget hF 13 3 2 3 rfl (by decide) (by decide) rfl wd_1466 (by decide +kernel) (by exact hS.k35) ?_
  rw [SR.r3 hR]
  refine jblk hF [(.iload_n 1, 1)] (by decide +kernel) (pc' := 5) (lo' := [(0, (2, 35)), (1, (0, f)), (2, (0, x)), (3, (0, p))]) (st' := [(0, f), (2, 36)]) rfl ?_
  refine jiald hF (by decide +kernel) (by exact hS.k36) (by omega) (by have := hS.l36; omega) ?_
  refine jif_ne hF (off := 16) 22 (by decide +kernel) (by decide) (by omega) (fun h_1 => ?_) (fun h_1 => ?_)
  · refine jblk hF [(.aload_n 0, 1), (.iload_n 1, 1), (.iload_n 2, 1), (.iload_n 3, 1)] (by decide +kernel) (pc' := 26) (lo' := [(0, (2, 35)), (1, (0, f)), (2, (0, x)), (3, (0, p))]) (st' := [(0, p), (0, x), (0, f), (2, 35)]) rfl ?_
    refine jcallV hF (c_X12_above hG hS hR f x p (by omega) (by omega)) MW_X12_above 13 (by decide) (by exact hS.k35) wd_1783 wd_1785 wd_p51 (by decide +kernel) [] rfl rfl (by decide) (Nat.le_of_ble_eq_true rfl) (by decide) (kV ?_)
    have hf_2 := @above_bd (mem 36 f) (mem 37 f) (mem 38 f) x p (by omega) (by omega)
    refine jblk hF [(.aload_n 0, 1), (.iload_n 1, 1), (.iload_n 2, 1)] (by decide +kernel) (pc' := 32) (lo' := [(0, (2, 35)), (1, (0, f)), (2, (0, x)), (3, (0, p))]) (st' := [(0, x), (0, f), (2, 35), (1, aboveV (mem 36 f) (mem 37 f) (mem 38 f) x p)]) rfl ?_
    refine jcallV hF (c_X12_below hG hS hR f x (by omega) (by omega)) MW_X12_below 13 (by decide) (by exact hS.k35) wd_1788 wd_1790 wd_p52 (by decide +kernel) [(1, aboveV (mem 36 f) (mem 37 f) (mem 38 f) x p)] rfl rfl (by decide) (Nat.le_of_ble_eq_true rfl) (by decide) (kV ?_)
    have hf_3 := @below_bd (mem 36 f) (mem 38 f) x (by omega) (by omega)
    refine jldivN hF (by decide +kernel) (by omega) (by omega) ?_
    refine jlret hF hr (by decide +kernel) ?_
    exact lV (by unfold exactV; first | rw [if_pos (by omega)] | rw [if_neg (by omega)])
  · refine jblk hF [(.aload_n 0, 1), (.iload_n 1, 1), (.iload_n 2, 1), (.iload_n 3, 1)] (by decide +kernel) (pc' := 13) (lo' := [(0, (2, 35)), (1, (0, f)), (2, (0, x)), (3, (0, p))]) (st' := [(0, p), (0, x), (0, f), (2, 35)]) rfl ?_
    refine jcallV hF (c_X12_under hG hS hR f x p (by omega) (by omega)) MW_X12_under 13 (by decide) (by exact hS.k35) wd_1770 wd_1772 wd_p50 (by decide +kernel) [] rfl rfl (by decide) (Nat.le_of_ble_eq_true rfl) (by decide) (kV ?_)
    have hf_4 := @under_bd (mem 37 f) (mem 38 f) x p (by omega) (by omega)
    refine jcallS hF (c_X12_root hG (underV (mem 37 f) (mem 38 f) x p) (by omega)) MW_X12_root wd_1778 wd_1779 (by decide +kernel) [] rfl rfl (by decide) (Nat.le_of_ble_eq_true rfl) (by decide) (kV ?_)
    have hf_5 := @isq_bd (underV (mem 37 f) (mem 38 f) x p) (by omega)
    refine jgoto hF (off := 17) 36 (by decide +kernel) (by decide) ?_
    refine jlret hF hr (by decide +kernel) ?_
    exact lV (by unfold exactV; first | rw [if_pos (by omega)] | rw [if_neg (by omega)])
end
