section
set_option maxHeartbeats 4000000 in
set_option maxRecDepth 100000 in
theorem c_X12_in {l : Launch} {g : GP} (hG : GH g) {kd : Int → Nat} {ln : Int → Int} {mem : Int → Int → Int} {sz : Nat} (v low high : Int) (h_v : InI v) (h_low : InI low) (h_high : InI high) : MT l g yX12_in cX12_in 3 (some .boolean) 0 0 0 [(0, v), (0, low), (0, high)] kd ln mem sz (pB (low ≤ v ∧ v ≤ high) kd ln mem sz) := by
  refine MT_of hG (by decide +kernel) (Nat.le_of_ble_eq_true rfl) (fun z hF hr hn => ?_)
  refine jblk hF [(.iload_n 0, 1), (.iload_n 1, 1)] (by decide +kernel) (pc' := 2) (lo' := [(0, (0, v)), (1, (0, low)), (2, (0, high))]) (st' := [(0, low), (0, v)]) rfl ?_
  refine jicmp_lt hF (off := 12) 14 (by decide +kernel) (by decide) (by omega) (by omega) (fun h_1 => ?_) (fun h_1 => ?_)
  · refine jblk hF [(.iconst 0, 1)] (by decide +kernel) (pc' := 15) (lo' := [(0, (0, v)), (1, (0, low)), (2, (0, high))]) (st' := [(0, 0)]) rfl ?_
    refine jzret hF hr (by omega) (by decide +kernel) ?_
    exact lB0 (by omega)
  · refine jblk hF [(.iload_n 0, 1), (.iload_n 2, 1)] (by decide +kernel) (pc' := 7) (lo' := [(0, (0, v)), (1, (0, low)), (2, (0, high))]) (st' := [(0, high), (0, v)]) rfl ?_
    refine jicmp_gt hF (off := 7) 14 (by decide +kernel) (by decide) (by omega) (by omega) (fun h_2 => ?_) (fun h_2 => ?_)
    · refine jblk hF [(.iconst 0, 1)] (by decide +kernel) (pc' := 15) (lo' := [(0, (0, v)), (1, (0, low)), (2, (0, high))]) (st' := [(0, 0)]) rfl ?_
      refine jzret hF hr (by omega) (by decide +kernel) ?_
      exact lB0 (by omega)
    · refine jblk hF [(.iconst 1, 1)] (by decide +kernel) (pc' := 11) (lo' := [(0, (0, v)), (1, (0, low)), (2, (0, high))]) (st' := [(0, 1)]) rfl ?_
      refine jgoto hF (off := 4) 15 (by decide +kernel) (by decide) ?_
      refine jzret hF hr (by omega) (by decide +kernel) ?_
      exact lB1 (by omega)
set_option maxHeartbeats 4000000 in
set_option maxRecDepth 100000 in
theorem c_X12_known {l : Launch} {g : GP} (hG : GH g) {kd : Int → Nat} {ln : Int → Int} {mem : Int → Int → Int} {sz : Nat} (hS : SK kd ln) (hR : SR mem) (h2 : InI (mem 35 2)) : MT l g yX12_known cX12_known 1 (some .int) 0 0 0 [(2, 35)] kd ln mem sz (pV (0, if mem 35 2 = -1 then mem 35 0 else mem 35 2) kd ln mem sz) := by
  refine MT_of hG (by decide +kernel) (Nat.le_of_ble_eq_true rfl) (fun z hF hr hn => ?_)
  refine jblk hF [(.aload_n 0, 1)] (by decide +kernel) (pc' := 1) (lo' := [(0, (2, 35))]) (st' := [(2, 35)]) rfl ?_
  refine jget hF 13 2 0 2 rfl (by decide) (by decide) rfl wd_1447 (by decide +kernel) (by exact hS.k35) ?_
  refine jblk hF [(.iconst (-1), 1)] (by decide +kernel) (pc' := 5) (lo' := [(0, (2, 35))]) (st' := [(0, (-1)), (0, mem 35 2)]) rfl ?_
  refine jicmp_ne hF (off := 10) 15 (by decide +kernel) (by decide) (by omega) (by omega) (fun h_1 => ?_) (fun h_1 => ?_)
  · refine jblk hF [(.aload_n 0, 1)] (by decide +kernel) (pc' := 16) (lo' := [(0, (2, 35))]) (st' := [(2, 35)]) rfl ?_
    refine jget hF 13 2 0 2 rfl (by decide) (by decide) rfl wd_1447 (by decide +kernel) (by exact hS.k35) ?_
    refine jiret hF hr (by decide +kernel) ?_
    exact lV (by split <;> omega)
  · refine jblk hF [(.aload_n 0, 1)] (by decide +kernel) (pc' := 9) (lo' := [(0, (2, 35))]) (st' := [(2, 35)]) rfl ?_
    refine jget hF 13 0 0 0 rfl (by decide) (by decide) rfl wd_1445 (by decide +kernel) (by exact hS.k35) ?_
    refine jgoto hF (off := 7) 19 (by decide +kernel) (by decide) ?_
    refine jiret hF hr (by decide +kernel) ?_
    exact lV (by split <;> omega)
set_option maxHeartbeats 4000000 in
set_option maxRecDepth 100000 in
theorem c_X12_isKnowing {l : Launch} {g : GP} (hG : GH g) {kd : Int → Nat} {ln : Int → Int} {mem : Int → Int → Int} {sz : Nat} (hS : SK kd ln) (hR : SR mem) (q : Int) (h_q : InI q) (h0 : InI (mem 35 0)) : MT l g yX12_isKnowing cX12_isKnowing 2 (some .boolean) 1 0 0 [(2, 35), (0, q)] kd ln mem sz (pB (0 ≤ q ∧ q ≤ mem 35 0) kd ln mem sz) := by
  refine MT_of hG (by decide +kernel) (Nat.le_of_ble_eq_true rfl) (fun z hF hr hn => ?_)
  refine jblk hF [(.iload_n 1, 1), (.iconst 0, 1), (.aload_n 0, 1)] (by decide +kernel) (pc' := 3) (lo' := [(0, (2, 35)), (1, (0, q))]) (st' := [(2, 35), (0, 0), (0, q)]) rfl ?_
  refine jget hF 13 0 0 0 rfl (by decide) (by decide) rfl wd_1445 (by decide +kernel) (by exact hS.k35) ?_
  refine jcallS hF (c_X12_in hG q 0 (mem 35 0) (by omega) (by omega) (by omega)) MW_X12_in wd_1725 wd_1726 (by decide +kernel) [] rfl rfl (by decide) (Nat.le_of_ble_eq_true rfl) (by decide) (kB (fun h_1 => ?_) (fun h_1 => ?_))
  · refine jzret hF hr (by omega) (by decide +kernel) ?_
    exact lB1 (by omega)
  · refine jzret hF hr (by omega) (by decide +kernel) ?_
    exact lB0 (by omega)
set_option maxHeartbeats 4000000 in
set_option maxRecDepth 100000 in
theorem c_X12_days {l : Launch} {g : GP} (hG : GH g) {kd : Int → Nat} {ln : Int → Int} {mem : Int → Int → Int} {sz : Nat} (hS : SK kd ln) (hR : SR mem) (n : Int) (h_n : InI n) (h0 : 0 ≤ mem 35 0 ∧ mem 35 0 ≤ 1000) : MT l g yX12_days cX12_days 2 (some .int) 1 0 0 [(2, 35), (0, n)] kd ln mem sz (pMR 0 (fun v mem' => SR mem' ∧ (((0 ≤ n ∧ n ≤ 1000 ∧ mem 35 0 + n ≤ 1000) → v = mem 35 0 + n ∧ mem' = set2 mem 35 0 (mem 35 0 + n)) ∧ (¬ (0 ≤ n ∧ n ≤ 1000 ∧ mem 35 0 + n ≤ 1000) → v = -1 ∧ mem' = mem))) kd ln sz) := by
  refine MT_of hG (by decide +kernel) (Nat.le_of_ble_eq_true rfl) (fun z hF hr hn => ?_)
  refine jblk hF [(.iload_n 1, 1), (.iconst 0, 1), (.sipush 1000, 3)] (by decide +kernel) (pc' := 5) (lo' := [(0, (2, 35)), (1, (0, n))]) (st' := [(0, 1000), (0, 0), (0, n)]) rfl ?_
  refine jcallS hF (c_X12_in hG n 0 1000 (by omega) (by omega) (by omega)) MW_X12_in wd_1725 wd_1726 (by decide +kernel) [] rfl rfl (by decide) (Nat.le_of_ble_eq_true rfl) (by decide) (kB (fun h_1 => ?_) (fun h_1 => ?_))
  · refine jif_eq hF (off := 15) 23 (by decide +kernel) (by decide) (by omega) (fun h => absurd h (by decide)) (fun _ => ?_)
    refine jblk hF [(.aload_n 0, 1)] (by decide +kernel) (pc' := 12) (lo' := [(0, (2, 35)), (1, (0, n))]) (st' := [(2, 35)]) rfl ?_
    refine jget hF 13 0 0 0 rfl (by decide) (by decide) rfl wd_1445 (by decide +kernel) (by exact hS.k35) ?_
    refine jblk hF [(.iload_n 1, 1), (.iadd, 1), (.sipush 1000, 3)] (by decide +kernel) (pc' := 20) (lo' := [(0, (2, 35)), (1, (0, n))]) (st' := [(0, 1000), (0, (mem 35 0) + n)]) rfl ?_
    refine jicmp_le hF (off := 5) 25 (by decide +kernel) (by decide) (by omega) (by omega) (fun h_3 => ?_) (fun h_3 => ?_)
    · refine jblk hF [(.aload_n 0, 1), (.dup, 1)] (by decide +kernel) (pc' := 27) (lo' := [(0, (2, 35)), (1, (0, n))]) (st' := [(2, 35), (2, 35)]) rfl ?_
      refine jget hF 13 0 0 0 rfl (by decide) (by decide) rfl wd_1445 (by decide +kernel) (by exact hS.k35) ?_
      refine jblk hF [(.iload_n 1, 1), (.iadd, 1)] (by decide +kernel) (pc' := 32) (lo' := [(0, (2, 35)), (1, (0, n))]) (st' := [(0, (mem 35 0) + n), (2, 35)]) rfl ?_
      refine jput hF 13 0 0 0 rfl (by decide) (by decide) rfl wd_1445 (by decide +kernel) rfl (Or.inl rfl) (by exact hS.k35) (fun h => by cases h) ?_
      refine jblk hF [(.aload_n 0, 1)] (by decide +kernel) (pc' := 36) (lo' := [(0, (2, 35)), (1, (0, n))]) (st' := [(2, 35)]) rfl ?_
      refine jget hF 13 0 0 0 rfl (by decide) (by decide) rfl wd_1445 (by decide +kernel) (by exact hS.k35) ?_
      rw [show (set2 mem 35 0 ((mem 35 0) + n)) 35 0 = (mem 35 0) + n from s2_s]
      refine jiret hF hr (by decide +kernel) ?_
      exact lMR ⟨(SR.s hR (Or.inr (by decide))), by first | exact ⟨fun h => absurd h (by omega), fun _ => ⟨rfl, rfl⟩⟩ | exact ⟨fun _ => ⟨rfl, rfl⟩, fun h => absurd (by omega) h⟩⟩
    · refine jblk hF [(.iconst (-1), 1)] (by decide +kernel) (pc' := 24) (lo' := [(0, (2, 35)), (1, (0, n))]) (st' := [(0, (-1))]) rfl ?_
      refine jiret hF hr (by decide +kernel) ?_
      exact lMR ⟨hR, by first | exact ⟨fun h => absurd h (by omega), fun _ => ⟨rfl, rfl⟩⟩ | exact ⟨fun _ => ⟨rfl, rfl⟩, fun h => absurd (by omega) h⟩⟩
  · refine jif_eq hF (off := 15) 23 (by decide +kernel) (by decide) (by omega) (fun _ => ?_) (fun h => absurd h (by decide))
    refine jblk hF [(.iconst (-1), 1)] (by decide +kernel) (pc' := 24) (lo' := [(0, (2, 35)), (1, (0, n))]) (st' := [(0, (-1))]) rfl ?_
    refine jiret hF hr (by decide +kernel) ?_
    exact lMR ⟨hR, by first | exact ⟨fun h => absurd h (by omega), fun _ => ⟨rfl, rfl⟩⟩ | exact ⟨fun _ => ⟨rfl, rfl⟩, fun h => absurd (by omega) h⟩⟩
set_option maxHeartbeats 4000000 in
set_option maxRecDepth 100000 in
theorem c_X12_ten {l : Launch} {g : GP} (hG : GH g) {kd : Int → Nat} {ln : Int → Int} {mem : Int → Int → Int} {sz : Nat} (p : Int) (hp : 0 ≤ p ∧ p ≤ 18) : MT l g yX12_ten cX12_ten 4 (some .long) 0 0 0 [(0, p)] kd ln mem sz (pV (1, 10 ^ p.toNat) kd ln mem sz) := by
  refine MT_of hG (by decide +kernel) (Nat.le_of_ble_eq_true rfl) (fun z hF hr hn => ?_)
  refine jlconst hF (n := 1) 1 rfl (by decide +kernel) ?_
  refine jblk hF [(.lstore_n 1, 1), (.iconst 0, 1), (.istore_n 3, 1)] (by decide +kernel) (pc' := 4) (lo' := [(3, (0, 0)), (1, (1, 1)), (0, (0, p))]) (st' := []) rfl ?_
  have L_2 : ∀ (fu_3 : Nat) (v : Int) (k : Int), (0 ≤ k ∧ k ≤ p) → (v = 10 ^ k.toNat) →  (p - k).toNat < fu_3 → J z g 4 0 0 (QM z g 0 0 (pV (1, 10 ^ p.toNat) kd ln mem sz)) 4 [(0, (0, p)), (1, (1, v)), (3, (0, k))] [] kd ln mem sz := by
    intro fu_3
    induction fu_3 with
    | zero => intro v k _ _ hm; omega
    | succ fu_3 ih_1 =>
      intro v k hk hv hm
      refine jblk hF [(.iload_n 3, 1), (.iload_n 0, 1)] (by decide +kernel) (pc' := 6) (lo' := [(0, (0, p)), (1, (1, v)), (3, (0, k))]) (st' := [(0, p), (0, k)]) rfl ?_
      refine jicmp_ge hF (off := 15) 21 (by decide +kernel) (by decide) (by omega) (by omega) (fun h_4 => ?_) (fun h_4 => ?_)
      · refine jblk hF [(.lload_n 1, 1)] (by decide +kernel) (pc' := 22) (lo' := [(0, (0, p)), (1, (1, v)), (3, (0, k))]) (st' := [(1, v)]) rfl ?_
        refine jlret hF hr (by decide +kernel) ?_
        exact lV (by rw [hv]; congr 1; omega)
      · refine jblk hF [(.lload_n 1, 1)] (by decide +kernel) (pc' := 10) (lo' := [(0, (0, p)), (1, (1, v)), (3, (0, k))]) (st' := [(1, v)]) rfl ?_
        refine jldc2 hF 10 wd_1759 (by decide +kernel) ?_
        refine jblk hF [(.lmul, 1), (.lstore_n 1, 1), (.iinc 3 1, 3)] (by decide +kernel) (pc' := 18) (lo' := [(3, (0, k + 1)), (1, (1, v * 10)), (0, (0, p))]) (st' := []) rfl ?_
        refine jgoto hF (off := (-14)) 4 (by decide +kernel) (by decide) ?_
        refine jsub [2, 1, 0] rfl ?_
        refine ih_1 (v * 10) (k + 1) ?_ ?_ ?_
        · omega
        · rw [hv, ← Int.pow_succ]; congr 1; omega
        · omega
  refine jsub [2, 1, 0] rfl ?_
  refine L_2 _ 1 0 ?_ ?_ (Nat.lt_succ_self _)
  · omega
  · rfl
end
