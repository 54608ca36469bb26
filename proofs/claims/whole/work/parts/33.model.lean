section
abbrev CPS (mem : Int → Int → Int) : Prop := 0 ≤ mem 35 79 ∧ mem 35 79 ≤ 8 ∧ ∀ c : Int, 0 ≤ c → c ≤ mem 35 79 - 1 → 0 ≤ mem 88 c ∧ mem 88 c ≤ mem 35 33 - 1
abbrev ERS (mem : Int → Int → Int) : Prop := 0 ≤ mem 35 80 ∧ mem 35 80 ≤ 40 ∧ ∀ e : Int, 0 ≤ e → e ≤ mem 35 80 - 1 → 0 ≤ mem 90 e ∧ mem 90 e ≤ mem 35 33 - 1 ∧ 0 ≤ mem 91 e ∧ mem 91 e < mem 47 (mem 90 e)
abbrev OTS (mem : Int → Int → Int) : Prop := 0 ≤ mem 35 84 ∧ mem 35 84 ≤ 8 ∧ ∀ t : Int, 0 ≤ t → t ≤ mem 35 84 - 1 → 0 ≤ mem 94 t ∧ mem 94 t ≤ mem 35 33 - 1
abbrev SHS (mem : Int → Int → Int) : Prop := 0 ≤ mem 35 88 ∧ mem 35 88 ≤ 8 ∧ ∀ s : Int, 0 ≤ s → s ≤ 7 → 0 ≤ mem 97 s ∧ mem 97 s ≤ 2 ∧ 0 ≤ mem 98 s ∧ mem 98 s ≤ 1
abbrev isCp (mem : Int → Int → Int) (c : Int) : Prop := 0 ≤ c ∧ c ≤ mem 35 79 - 1
abbrev isSh (mem : Int → Int → Int) (s : Int) : Prop := 0 ≤ s ∧ s ≤ mem 35 88 - 1
abbrev errC (mem : Int → Int → Int) (p n : Int) : Prop := isLn mem p n ∧ mem 35 80 ≠ 40
def errM (mem : Int → Int → Int) (p n a b : Int) : Int → Int → Int := set2 (set2 (set2 (set2 (set2 mem 90 (mem 35 80) p) 91 (mem 35 80) n) 92 (mem 35 80) a) 93 (mem 35 80) b) 35 80 (mem 35 80 + 1)
abbrev appC (mem : Int → Int → Int) (c e : Int) : Prop := isCp mem c ∧ (0 ≤ e ∧ e ≤ mem 35 80 - 1) ∧ mem 90 e = mem 88 c
def erN (mem : Int → Int → Int) (c p : Int) : Nat → Int
  | 0 => 0
  | n + 1 => erN mem c p n + (if wL (mem 89 (40 * c + n)) = wL (rightV mem p n) then 0 else 1)
theorem erN_s {mem : Int → Int → Int} {c p n : Int} (q : 0 ≤ n) : erN mem c p (n + 1).toNat = erN mem c p n.toNat + (if wL (mem 89 (40 * c + n)) = wL (rightV mem p n) then 0 else 1) := by
  rw [show (n + 1).toNat = n.toNat + 1 by omega, erN, show ((n.toNat : Nat) : Int) = n by omega]
theorem erN_bd (mem : Int → Int → Int) (c p : Int) : ∀ k : Nat, 0 ≤ erN mem c p k ∧ erN mem c p k ≤ k := by
  intro k
  induction k with
  | zero => simp [erN]
  | succ k ih => unfold erN; split <;> omega
abbrev tellC (mem : Int → Int → Int) (t n : Int) : Prop := (0 ≤ t ∧ t ≤ mem 35 84 - 1) ∧ (0 ≤ n ∧ n ≤ mem 47 (mem 94 t) - 1)
def tellM (mem : Int → Int → Int) (t n v : Int) : Int → Int → Int := set2 (set2 mem 95 (40 * t + n) v) 96 (40 * t + n) (if wL v = wL (-1) then 0 else 1)
def shV (k v : Int) : Int := if k = 0 then fi2b v else if k = 1 then fi2s v else v
abbrev putC (mem : Int → Int → Int) (s j v : Int) : Prop := isSh mem s ∧ mem 98 s = 0 ∧ (0 ≤ j ∧ j ≤ 39) ∧ (-1000000000 ≤ v ∧ v ≤ 1000000000)
abbrev takA (mem : Int → Int → Int) (p n s : Int) : Prop := isLn mem p n ∧ n % mem 52 p > mem 49 p ∧ isSh mem s
abbrev takB (mem : Int → Int → Int) (s j : Int) : Prop := mem 98 s = 0 ∧ 0 ≤ j ∧ j ≤ 39
def knw (mem : Int → Int → Int) : Int := if mem 35 2 = -1 then mem 35 0 else mem 35 2
def takV (mem : Int → Int → Int) (p n s j : Int) : Int := wL (mem 99 (40 * s + j) - numQ mem p n (knw mem))
set_option maxHeartbeats 4000000 in
set_option maxRecDepth 100000 in
theorem c_X12_erratum {l : Launch} {g : GP} (hG : GH g) {kd : Int → Nat} {ln : Int → Int} {mem : Int → Int → Int} {sz : Nat} (hS : SK kd ln) (hR : SR mem) (p n a b : Int) (h_p : InI p) (h_n : InI n) (hPS : PGS mem) (hER : ERS mem) : MT l g yX12_erratum cX12_erratum 7 (some .int) 3 0 0 [(2, 35), (0, p), (0, n), (1, a), (1, b)] kd ln mem sz (pMR 0 (fun v mem' => SR mem' ∧ (((errC mem p n) → v = mem 35 80 ∧ mem' = errM mem p n a b) ∧ (¬ (errC mem p n) → v = -1 ∧ mem' = mem))) kd ln sz) := by
  refine MT_of hG (by decide +kernel) (Nat.le_of_ble_eq_true rfl) (fun z hF hr hn => ?_)
  refine jblk hF [(.aload_n 0, 1), (.iload_n 1, 1), (.iload_n 2, 1)] (by decide +kernel) (pc' := 3) (lo' := [(0, (2, 35)), (1, (0, p)), (2, (0, n)), (3, (1, a)), (5, (1, b))]) (st' := [(0, n), (0, p), (2, 35)]) rfl ?_
  refine jcallV hF (c_X12_isLine hG hS hR p n (by omega) (by omega) (by exact hPS)) MW_X12_isLine 13 (by decide) (by exact hS.k35) wd_1954 wd_1956 wd_p76 (by decide +kernel) [] rfl rfl (by decide) (Nat.le_of_ble_eq_true rfl) (by decide) (kB (fun h_1 => ?_) (fun h_1 => ?_))
  · refine jif_eq hF (off := 12) 18 (by decide +kernel) (by decide) (by decide) (fun h => absurd h (by decide)) (fun _ => ?_)
    refine jblk hF [(.aload_n 0, 1)] (by decide +kernel) (pc' := 10) (lo' := [(0, (2, 35)), (1, (0, p)), (2, (0, n)), (3, (1, a)), (5, (1, b))]) (st' := [(2, 35)]) rfl ?_
    refine jget hF 13 80 0 80 rfl (by decide) (by decide) rfl wd_1543 (by decide +kernel) (by exact hS.k35) ?_
    refine jblk hF [(.bipush 40, 2)] (by decide +kernel) (pc' := 15) (lo' := [(0, (2, 35)), (1, (0, p)), (2, (0, n)), (3, (1, a)), (5, (1, b))]) (st' := [(0, 40), (0, mem 35 80)]) rfl ?_
    refine jicmp_ne hF (off := 5) 20 (by decide +kernel) (by decide) (by omega) (by decide) (fun h_3 => ?_) (fun h_3 => ?_)
    · refine jblk hF [(.aload_n 0, 1)] (by decide +kernel) (pc' := 21) (lo' := [(0, (2, 35)), (1, (0, p)), (2, (0, n)), (3, (1, a)), (5, (1, b))]) (st' := [(2, 35)]) rfl ?_
      refine jget hF 13 75 2 75 rfl (by decide) (by decide) rfl wd_1538 (by decide +kernel) (by exact hS.k35) ?_
      rw [SR.r75 hR]
      refine jblk hF [(.aload_n 0, 1)] (by decide +kernel) (pc' := 25) (lo' := [(0, (2, 35)), (1, (0, p)), (2, (0, n)), (3, (1, a)), (5, (1, b))]) (st' := [(2, 35), (2, 90)]) rfl ?_
      refine jget hF 13 80 0 80 rfl (by decide) (by decide) rfl wd_1543 (by decide +kernel) (by exact hS.k35) ?_
      refine jblk hF [(.iload_n 1, 1)] (by decide +kernel) (pc' := 29) (lo' := [(0, (2, 35)), (1, (0, p)), (2, (0, n)), (3, (1, a)), (5, (1, b))]) (st' := [(0, p), (0, mem 35 80), (2, 90)]) rfl ?_
      refine jiast hF (by decide +kernel) (by decide) (by exact hS.k90) (by omega) (by have := hS.l90; omega) ?_
      refine jblk hF [(.aload_n 0, 1)] (by decide +kernel) (pc' := 31) (lo' := [(0, (2, 35)), (1, (0, p)), (2, (0, n)), (3, (1, a)), (5, (1, b))]) (st' := [(2, 35)]) rfl ?_
      refine jget hF 13 76 2 76 rfl (by decide) (by decide) rfl wd_1539 (by decide +kernel) (by exact hS.k35) ?_
      rw [SR.r76 (SR.s hR (Or.inl (by decide)))]
      refine jblk hF [(.aload_n 0, 1)] (by decide +kernel) (pc' := 35) (lo' := [(0, (2, 35)), (1, (0, p)), (2, (0, n)), (3, (1, a)), (5, (1, b))]) (st' := [(2, 35), (2, 91)]) rfl ?_
      refine jget hF 13 80 0 80 rfl (by decide) (by decide) rfl wd_1543 (by decide +kernel) (by exact hS.k35) ?_
      rw [show (set2 mem 90 (mem 35 80) p) 35 80 = mem 35 80 from (s2_a (by decide))]
      refine jblk hF [(.iload_n 2, 1)] (by decide +kernel) (pc' := 39) (lo' := [(0, (2, 35)), (1, (0, p)), (2, (0, n)), (3, (1, a)), (5, (1, b))]) (st' := [(0, n), (0, mem 35 80), (2, 91)]) rfl ?_
      refine jiast hF (by decide +kernel) (by decide) (by exact hS.k91) (by omega) (by have := hS.l91; omega) ?_
      refine jblk hF [(.aload_n 0, 1)] (by decide +kernel) (pc' := 41) (lo' := [(0, (2, 35)), (1, (0, p)), (2, (0, n)), (3, (1, a)), (5, (1, b))]) (st' := [(2, 35)]) rfl ?_
      refine jget hF 13 77 2 77 rfl (by decide) (by decide) rfl wd_1540 (by decide +kernel) (by exact hS.k35) ?_
      rw [SR.r77 (SR.s (SR.s hR (Or.inl (by decide))) (Or.inl (by decide)))]
      refine jblk hF [(.aload_n 0, 1)] (by decide +kernel) (pc' := 45) (lo' := [(0, (2, 35)), (1, (0, p)), (2, (0, n)), (3, (1, a)), (5, (1, b))]) (st' := [(2, 35), (2, 92)]) rfl ?_
      refine jget hF 13 80 0 80 rfl (by decide) (by decide) rfl wd_1543 (by decide +kernel) (by exact hS.k35) ?_
      rw [show (set2 (set2 mem 90 (mem 35 80) p) 91 (mem 35 80) n) 35 80 = mem 35 80 from ((s2_a (by decide)).trans (s2_a (by decide)))]
      refine jblk hF [(.lload_n 3, 1)] (by decide +kernel) (pc' := 49) (lo' := [(0, (2, 35)), (1, (0, p)), (2, (0, n)), (3, (1, a)), (5, (1, b))]) (st' := [(1, a), (0, mem 35 80), (2, 92)]) rfl ?_
      refine jlast hF (by decide +kernel) (by decide) (by exact hS.k92) (by omega) (by have := hS.l92; omega) ?_
      refine jblk hF [(.aload_n 0, 1)] (by decide +kernel) (pc' := 51) (lo' := [(0, (2, 35)), (1, (0, p)), (2, (0, n)), (3, (1, a)), (5, (1, b))]) (st' := [(2, 35)]) rfl ?_
      refine jget hF 13 78 2 78 rfl (by decide) (by decide) rfl wd_1541 (by decide +kernel) (by exact hS.k35) ?_
      rw [SR.r78 (SR.s (SR.s (SR.s hR (Or.inl (by decide))) (Or.inl (by decide))) (Or.inl (by decide)))]
      refine jblk hF [(.aload_n 0, 1)] (by decide +kernel) (pc' := 55) (lo' := [(0, (2, 35)), (1, (0, p)), (2, (0, n)), (3, (1, a)), (5, (1, b))]) (st' := [(2, 35), (2, 93)]) rfl ?_
      refine jget hF 13 80 0 80 rfl (by decide) (by decide) rfl wd_1543 (by decide +kernel) (by exact hS.k35) ?_
      rw [show (set2 (set2 (set2 mem 90 (mem 35 80) p) 91 (mem 35 80) n) 92 (mem 35 80) a) 35 80 = mem 35 80 from ((s2_a (by decide)).trans ((s2_a (by decide)).trans (s2_a (by decide))))]
      refine jblk hF [(.lload 5, 2)] (by decide +kernel) (pc' := 60) (lo' := [(0, (2, 35)), (1, (0, p)), (2, (0, n)), (3, (1, a)), (5, (1, b))]) (st' := [(1, b), (0, mem 35 80), (2, 93)]) rfl ?_
      refine jlast hF (by decide +kernel) (by decide) (by exact hS.k93) (by omega) (by have := hS.l93; omega) ?_
      refine jblk hF [(.aload_n 0, 1), (.dup, 1)] (by decide +kernel) (pc' := 63) (lo' := [(0, (2, 35)), (1, (0, p)), (2, (0, n)), (3, (1, a)), (5, (1, b))]) (st' := [(2, 35), (2, 35)]) rfl ?_
      refine jget hF 13 80 0 80 rfl (by decide) (by decide) rfl wd_1543 (by decide +kernel) (by exact hS.k35) ?_
      rw [show (set2 (set2 (set2 (set2 mem 90 (mem 35 80) p) 91 (mem 35 80) n) 92 (mem 35 80) a) 93 (mem 35 80) b) 35 80 = mem 35 80 from ((s2_a (by decide)).trans ((s2_a (by decide)).trans ((s2_a (by decide)).trans (s2_a (by decide)))))]
      refine jblk hF [(.iconst 1, 1), (.iadd, 1)] (by decide +kernel) (pc' := 68) (lo' := [(0, (2, 35)), (1, (0, p)), (2, (0, n)), (3, (1, a)), (5, (1, b))]) (st' := [(0, (mem 35 80) + 1), (2, 35)]) rfl ?_
      refine jput hF 13 80 0 80 rfl (by decide) (by decide) rfl wd_1543 (by decide +kernel) rfl (Or.inl rfl) (by exact hS.k35) (fun h => by cases h) ?_
      refine jblk hF [(.aload_n 0, 1)] (by decide +kernel) (pc' := 72) (lo' := [(0, (2, 35)), (1, (0, p)), (2, (0, n)), (3, (1, a)), (5, (1, b))]) (st' := [(2, 35)]) rfl ?_
      refine jget hF 13 80 0 80 rfl (by decide) (by decide) rfl wd_1543 (by decide +kernel) (by exact hS.k35) ?_
      rw [show (set2 (set2 (set2 (set2 (set2 mem 90 (mem 35 80) p) 91 (mem 35 80) n) 92 (mem 35 80) a) 93 (mem 35 80) b) 35 80 ((mem 35 80) + 1)) 35 80 = (mem 35 80) + 1 from s2_s]
      refine jblk hF [(.iconst 1, 1), (.isub, 1)] (by decide +kernel) (pc' := 77) (lo' := [(0, (2, 35)), (1, (0, p)), (2, (0, n)), (3, (1, a)), (5, (1, b))]) (st' := [(0, ((mem 35 80) + 1) - 1)]) rfl ?_
      refine jiret hF hr (by decide +kernel) ?_
      exact lMR ⟨(SR.s (SR.s (SR.s (SR.s (SR.s hR (Or.inl (by decide))) (Or.inl (by decide))) (Or.inl (by decide))) (Or.inl (by decide))) (Or.inr (by decide))), by first | exact ⟨fun h => absurd h (by omega), fun _ => ⟨rfl, rfl⟩⟩ | exact ⟨fun _ => ⟨by omega, rfl⟩, fun h => absurd (by omega) h⟩⟩
    · refine jblk hF [(.iconst (-1), 1)] (by decide +kernel) (pc' := 19) (lo' := [(0, (2, 35)), (1, (0, p)), (2, (0, n)), (3, (1, a)), (5, (1, b))]) (st' := [(0, (-1))]) rfl ?_
      refine jiret hF hr (by decide +kernel) ?_
      exact lMR ⟨hR, by first | exact ⟨fun h => absurd h (by omega), fun _ => ⟨rfl, rfl⟩⟩ | exact ⟨fun _ => ⟨by omega, rfl⟩, fun h => absurd (by omega) h⟩⟩
  · refine jif_eq hF (off := 12) 18 (by decide +kernel) (by decide) (by decide) (fun _ => ?_) (fun h => absurd h (by decide))
    refine jblk hF [(.iconst (-1), 1)] (by decide +kernel) (pc' := 19) (lo' := [(0, (2, 35)), (1, (0, p)), (2, (0, n)), (3, (1, a)), (5, (1, b))]) (st' := [(0, (-1))]) rfl ?_
    refine jiret hF hr (by decide +kernel) ?_
    exact lMR ⟨hR, by first | exact ⟨fun h => absurd h (by omega), fun _ => ⟨rfl, rfl⟩⟩ | exact ⟨fun _ => ⟨by omega, rfl⟩, fun h => absurd (by omega) h⟩⟩
set_option maxHeartbeats 4000000 in
set_option maxRecDepth 100000 in
theorem c_X12_isCopy {l : Launch} {g : GP} (hG : GH g) {kd : Int → Nat} {ln : Int → Int} {mem : Int → Int → Int} {sz : Nat} (hS : SK kd ln) (hR : SR mem) (c : Int) (h_c : InI c) (hCP : CPS mem) : MT l g yX12_isCopy cX12_isCopy 2 (some .boolean) 1 0 0 [(2, 35), (0, c)] kd ln mem sz (pB (isCp mem c) kd ln mem sz) := by
  refine MT_of hG (by decide +kernel) (Nat.le_of_ble_eq_true rfl) (fun z hF hr hn => ?_)
  refine jblk hF [(.iload_n 1, 1), (.iconst 0, 1), (.aload_n 0, 1)] (by decide +kernel) (pc' := 3) (lo' := [(0, (2, 35)), (1, (0, c))]) (st' := [(2, 35), (0, 0), (0, c)]) rfl ?_
  refine jget hF 13 79 0 79 rfl (by decide) (by decide) rfl wd_1542 (by decide +kernel) (by exact hS.k35) ?_
  refine jblk hF [(.iconst 1, 1), (.isub, 1)] (by decide +kernel) (pc' := 8) (lo' := [(0, (2, 35)), (1, (0, c))]) (st' := [(0, (mem 35 79) - 1), (0, 0), (0, c)]) rfl ?_
  refine jcallS hF (c_X12_in hG c 0 ((mem 35 79) - 1) (by omega) (by decide) (by omega)) MW_X12_in wd_1743 wd_1744 (by decide +kernel) [] rfl rfl (by decide) (Nat.le_of_ble_eq_true rfl) (by decide) (kB (fun h_1 => ?_) (fun h_1 => ?_))
  · refine jzret hF hr (by omega) (by decide +kernel) ?_
    exact lB1 (by omega)
  · refine jzret hF hr (by omega) (by decide +kernel) ?_
    exact lB0 (by omega)
set_option maxHeartbeats 4000000 in
set_option maxRecDepth 100000 in
theorem c_X12_apply {l : Launch} {g : GP} (hG : GH g) {kd : Int → Nat} {ln : Int → Int} {mem : Int → Int → Int} {sz : Nat} (hS : SK kd ln) (hR : SR mem) (c e : Int) (h_c : InI c) (h_e : InI e) (hPS : PGS mem) (hCP : CPS mem) (hER : ERS mem) : MT l g yX12_apply cX12_apply 4 (some .int) 2 0 0 [(2, 35), (0, c), (0, e)] kd ln mem sz (pMR 0 (fun v mem' => SR mem' ∧ ((¬ appC mem c e → v = 2 ∧ mem' = mem) ∧ (appC mem c e → ¬ wL (mem 89 (40 * c + mem 91 e)) = wL (mem 92 e) → v = 1 ∧ mem' = mem) ∧ (appC mem c e → wL (mem 89 (40 * c + mem 91 e)) = wL (mem 92 e) → v = 0 ∧ mem' = set2 mem 89 (40 * c + mem 91 e) (mem 93 e)))) kd ln sz) := by
  refine MT_of hG (by decide +kernel) (Nat.le_of_ble_eq_true rfl) (fun z hF hr hn => ?_)
  refine jblk hF [(.aload_n 0, 1), (.iload_n 1, 1)] (by decide +kernel) (pc' := 2) (lo' := [(0, (2, 35)), (1, (0, c)), (2, (0, e))]) (st' := [(0, c), (2, 35)]) rfl ?_
  refine jcallV hF (c_X12_isCopy hG hS hR c (by omega) (by exact hCP)) MW_X12_isCopy 13 (by decide) (by exact hS.k35) wd_2190 wd_2192 wd_p100 (by decide +kernel) [] rfl rfl (by decide) (Nat.le_of_ble_eq_true rfl) (by decide) (kB (fun h_1 => ?_) (fun h_1 => ?_))
  · refine jif_eq hF (off := 32) 37 (by decide +kernel) (by decide) (by decide) (fun h => absurd h (by decide)) (fun _ => ?_)
    refine jblk hF [(.iload_n 2, 1), (.iconst 0, 1), (.aload_n 0, 1)] (by decide +kernel) (pc' := 11) (lo' := [(0, (2, 35)), (1, (0, c)), (2, (0, e))]) (st' := [(2, 35), (0, 0), (0, e)]) rfl ?_
    refine jget hF 13 80 0 80 rfl (by decide) (by decide) rfl wd_1543 (by decide +kernel) (by exact hS.k35) ?_
    refine jblk hF [(.iconst 1, 1), (.isub, 1)] (by decide +kernel) (pc' := 16) (lo' := [(0, (2, 35)), (1, (0, c)), (2, (0, e))]) (st' := [(0, (mem 35 80) - 1), (0, 0), (0, e)]) rfl ?_
    refine jcallS hF (c_X12_in hG e 0 ((mem 35 80) - 1) (by omega) (by decide) (by omega)) MW_X12_in wd_1743 wd_1744 (by decide +kernel) [] rfl rfl (by decide) (Nat.le_of_ble_eq_true rfl) (by decide) (kB (fun h_3 => ?_) (fun h_3 => ?_))
    · refine jif_eq hF (off := 18) 37 (by decide +kernel) (by decide) (by decide) (fun h => absurd h (by decide)) (fun _ => ?_)
      have hc := hCP.2.2 c (by omega) (by omega)
      have he := hER.2.2 e (by omega) (by omega)
      have hPS2 := hPS.2.1
      refine jblk hF [(.aload_n 0, 1)] (by decide +kernel) (pc' := 23) (lo' := [(0, (2, 35)), (1, (0, c)), (2, (0, e))]) (st' := [(2, 35)]) rfl ?_
      refine jget hF 13 75 2 75 rfl (by decide) (by decide) rfl wd_1538 (by decide +kernel) (by exact hS.k35) ?_
      rw [SR.r75 hR]
      refine jblk hF [(.iload_n 2, 1)] (by decide +kernel) (pc' := 27) (lo' := [(0, (2, 35)), (1, (0, c)), (2, (0, e))]) (st' := [(0, e), (2, 90)]) rfl ?_
      refine jiald hF (by decide +kernel) (by exact hS.k90) (by omega) (by have := hS.l90; omega) ?_
      refine jblk hF [(.aload_n 0, 1)] (by decide +kernel) (pc' := 29) (lo' := [(0, (2, 35)), (1, (0, c)), (2, (0, e))]) (st' := [(2, 35), (0, mem 90 e)]) rfl ?_
      refine jget hF 13 73 2 73 rfl (by decide) (by decide) rfl wd_1536 (by decide +kernel) (by exact hS.k35) ?_
      rw [SR.r73 hR]
      refine jblk hF [(.iload_n 1, 1)] (by decide +kernel) (pc' := 33) (lo' := [(0, (2, 35)), (1, (0, c)), (2, (0, e))]) (st' := [(0, c), (2, 88), (0, mem 90 e)]) rfl ?_
      refine jiald hF (by decide +kernel) (by exact hS.k88) (by omega) (by have := hS.l88; omega) ?_
      refine jicmp_eq hF (off := 5) 39 (by decide +kernel) (by decide) (by omega) (by omega) (fun h_5 => ?_) (fun h_5 => ?_)
      · have hp := hPS.2.2 (mem 90 e) (by omega) (by omega)
        refine jblk hF [(.bipush 40, 2), (.iload_n 1, 1), (.imul, 1), (.aload_n 0, 1)] (by decide +kernel) (pc' := 44) (lo' := [(0, (2, 35)), (1, (0, c)), (2, (0, e))]) (st' := [(2, 35), (0, 40 * c)]) rfl ?_
        refine jget hF 13 76 2 76 rfl (by decide) (by decide) rfl wd_1539 (by decide +kernel) (by exact hS.k35) ?_
        rw [SR.r76 hR]
        refine jblk hF [(.iload_n 2, 1)] (by decide +kernel) (pc' := 48) (lo' := [(0, (2, 35)), (1, (0, c)), (2, (0, e))]) (st' := [(0, e), (2, 91), (0, 40 * c)]) rfl ?_
        refine jiald hF (by decide +kernel) (by exact hS.k91) (by omega) (by have := hS.l91; omega) ?_
        refine jblk hF [(.iadd, 1), (.istore_n 3, 1), (.aload_n 0, 1)] (by decide +kernel) (pc' := 52) (lo' := [(3, (0, (40 * c) + (mem 91 e))), (0, (2, 35)), (1, (0, c)), (2, (0, e))]) (st' := [(2, 35)]) rfl ?_
        refine jget hF 13 74 2 74 rfl (by decide) (by decide) rfl wd_1537 (by decide +kernel) (by exact hS.k35) ?_
        rw [SR.r74 hR]
        refine jblk hF [(.iload_n 3, 1)] (by decide +kernel) (pc' := 56) (lo' := [(3, (0, (40 * c) + (mem 91 e))), (0, (2, 35)), (1, (0, c)), (2, (0, e))]) (st' := [(0, (40 * c) + (mem 91 e)), (2, 89)]) rfl ?_
        refine jlald hF (by decide +kernel) (by exact hS.k89) (by omega) (by have := hS.l89; omega) ?_
        refine jblk hF [(.aload_n 0, 1)] (by decide +kernel) (pc' := 58) (lo' := [(3, (0, (40 * c) + (mem 91 e))), (0, (2, 35)), (1, (0, c)), (2, (0, e))]) (st' := [(2, 35), (1, mem 89 ((40 * c) + (mem 91 e)))]) rfl ?_
        refine jget hF 13 77 2 77 rfl (by decide) (by decide) rfl wd_1540 (by decide +kernel) (by exact hS.k35) ?_
        rw [SR.r77 hR]
        refine jblk hF [(.iload_n 2, 1)] (by decide +kernel) (pc' := 62) (lo' := [(3, (0, (40 * c) + (mem 91 e))), (0, (2, 35)), (1, (0, c)), (2, (0, e))]) (st' := [(0, e), (2, 92), (1, mem 89 ((40 * c) + (mem 91 e)))]) rfl ?_
        refine jlald hF (by decide +kernel) (by exact hS.k92) (by omega) (by have := hS.l92; omega) ?_
        refine jlcmpW_eq hF (off := 5) 69 (by decide +kernel) (by decide +kernel) (by decide) (fun h_6 => ?_) (fun h_6 => ?_)
        · refine jblk hF [(.aload_n 0, 1)] (by decide +kernel) (pc' := 70) (lo' := [(3, (0, (40 * c) + (mem 91 e))), (0, (2, 35)), (1, (0, c)), (2, (0, e))]) (st' := [(2, 35)]) rfl ?_
          refine jget hF 13 74 2 74 rfl (by decide) (by decide) rfl wd_1537 (by decide +kernel) (by exact hS.k35) ?_
          rw [SR.r74 hR]
          refine jblk hF [(.iload_n 3, 1), (.aload_n 0, 1)] (by decide +kernel) (pc' := 75) (lo' := [(3, (0, (40 * c) + (mem 91 e))), (0, (2, 35)), (1, (0, c)), (2, (0, e))]) (st' := [(2, 35), (0, (40 * c) + (mem 91 e)), (2, 89)]) rfl ?_
          refine jget hF 13 78 2 78 rfl (by decide) (by decide) rfl wd_1541 (by decide +kernel) (by exact hS.k35) ?_
          rw [SR.r78 hR]
          refine jblk hF [(.iload_n 2, 1)] (by decide +kernel) (pc' := 79) (lo' := [(3, (0, (40 * c) + (mem 91 e))), (0, (2, 35)), (1, (0, c)), (2, (0, e))]) (st' := [(0, e), (2, 93), (0, (40 * c) + (mem 91 e)), (2, 89)]) rfl ?_
          refine jlald hF (by decide +kernel) (by exact hS.k93) (by omega) (by have := hS.l93; omega) ?_
          refine jlast hF (by decide +kernel) (by decide) (by exact hS.k89) (by omega) (by have := hS.l89; omega) ?_
          refine jblk hF [(.iconst 0, 1)] (by decide +kernel) (pc' := 82) (lo' := [(3, (0, (40 * c) + (mem 91 e))), (0, (2, 35)), (1, (0, c)), (2, (0, e))]) (st' := [(0, 0)]) rfl ?_
          refine jiret hF hr (by decide +kernel) ?_
          exact lMR ⟨(SR.s hR (Or.inl (by decide))), by exact ⟨fun h => absurd (by omega) h, fun _ h => absurd (by assumption) h, fun _ _ => ⟨rfl, rfl⟩⟩⟩
        · refine jblk hF [(.iconst 1, 1)] (by decide +kernel) (pc' := 68) (lo' := [(3, (0, (40 * c) + (mem 91 e))), (0, (2, 35)), (1, (0, c)), (2, (0, e))]) (st' := [(0, 1)]) rfl ?_
          refine jiret hF hr (by decide +kernel) ?_
          exact lMR ⟨hR, by exact ⟨fun h => absurd (by omega) h, fun _ _ => ⟨rfl, rfl⟩, fun _ h => absurd h (by assumption)⟩⟩
      · refine jblk hF [(.iconst 2, 1)] (by decide +kernel) (pc' := 38) (lo' := [(0, (2, 35)), (1, (0, c)), (2, (0, e))]) (st' := [(0, 2)]) rfl ?_
        refine jiret hF hr (by decide +kernel) ?_
        exact lMR ⟨hR, by exact ⟨fun _ => ⟨rfl, rfl⟩, fun h => absurd h (by omega), fun h => absurd h (by omega)⟩⟩
    · refine jif_eq hF (off := 18) 37 (by decide +kernel) (by decide) (by decide) (fun _ => ?_) (fun h => absurd h (by decide))
      refine jblk hF [(.iconst 2, 1)] (by decide +kernel) (pc' := 38) (lo' := [(0, (2, 35)), (1, (0, c)), (2, (0, e))]) (st' := [(0, 2)]) rfl ?_
      refine jiret hF hr (by decide +kernel) ?_
      exact lMR ⟨hR, by exact ⟨fun _ => ⟨rfl, rfl⟩, fun h => absurd h (by omega), fun h => absurd h (by omega)⟩⟩
  · refine jif_eq hF (off := 32) 37 (by decide +kernel) (by decide) (by decide) (fun _ => ?_) (fun h => absurd h (by decide))
    refine jblk hF [(.iconst 2, 1)] (by decide +kernel) (pc' := 38) (lo' := [(0, (2, 35)), (1, (0, c)), (2, (0, e))]) (st' := [(0, 2)]) rfl ?_
    refine jiret hF hr (by decide +kernel) ?_
    exact lMR ⟨hR, by exact ⟨fun _ => ⟨rfl, rfl⟩, fun h => absurd h (by omega), fun h => absurd h (by omega)⟩⟩
set_option maxHeartbeats 4000000 in
set_option maxRecDepth 100000 in
theorem c_X12_copied {l : Launch} {g : GP} (hG : GH g) {kd : Int → Nat} {ln : Int → Int} {mem : Int → Int → Int} {sz : Nat} (hS : SK kd ln) (hR : SR mem) (c n : Int) (h_c : InI c) (h_n : InI n) (hPS : PGS mem) (hCP : CPS mem) : MT l g yX12_copied cX12_copied 3 (some .long) 2 0 0 [(2, 35), (0, c), (0, n)] kd ln mem sz (pMR 1 (fun v mem' => SR mem' ∧ (((isCp mem c ∧ 0 ≤ n ∧ n ≤ mem 47 (mem 88 c) - 1) → v = mem 89 (40 * c + n) ∧ mem' = thr mem 0) ∧ (¬ (isCp mem c ∧ 0 ≤ n ∧ n ≤ mem 47 (mem 88 c) - 1) → v = 0 ∧ mem' = thr mem 1))) kd ln sz) := by
  refine MT_of hG (by decide +kernel) (Nat.le_of_ble_eq_true rfl) (fun z hF hr hn => ?_)
  refine jblk hF [(.aload_n 0, 1), (.aload_n 0, 1), (.iload_n 1, 1)] (by decide +kernel) (pc' := 3) (lo' := [(0, (2, 35)), (1, (0, c)), (2, (0, n))]) (st' := [(0, c), (2, 35), (2, 35)]) rfl ?_
  refine jcallV hF (c_X12_isCopy hG hS hR c (by omega) (by exact hCP)) MW_X12_isCopy 13 (by decide) (by exact hS.k35) wd_2190 wd_2192 wd_p100 (by decide +kernel) [(2, 35)] rfl rfl (by decide) (Nat.le_of_ble_eq_true rfl) (by decide) (kB (fun h_1 => ?_) (fun h_1 => ?_))
  · refine jif_eq hF (off := 28) 34 (by decide +kernel) (by decide) (by decide) (fun h => absurd h (by decide)) (fun _ => ?_)
    have hc := hCP.2.2 c (by omega) (by omega)
    have hp := hPS.2.2 (mem 88 c) (by omega) (by omega)
    refine jblk hF [(.iload_n 2, 1), (.iconst 0, 1), (.aload_n 0, 1)] (by decide +kernel) (pc' := 12) (lo' := [(0, (2, 35)), (1, (0, c)), (2, (0, n))]) (st' := [(2, 35), (0, 0), (0, n), (2, 35)]) rfl ?_
    refine jget hF 13 22 2 22 rfl (by decide) (by decide) rfl wd_1485 (by decide +kernel) (by exact hS.k35) ?_
    rw [SR.r22 hR]
    refine jblk hF [(.aload_n 0, 1)] (by decide +kernel) (pc' := 16) (lo' := [(0, (2, 35)), (1, (0, c)), (2, (0, n))]) (st' := [(2, 35), (2, 47), (0, 0), (0, n), (2, 35)]) rfl ?_
    refine jget hF 13 73 2 73 rfl (by decide) (by decide) rfl wd_1536 (by decide +kernel) (by exact hS.k35) ?_
    rw [SR.r73 hR]
    refine jblk hF [(.iload_n 1, 1)] (by decide +kernel) (pc' := 20) (lo' := [(0, (2, 35)), (1, (0, c)), (2, (0, n))]) (st' := [(0, c), (2, 88), (2, 47), (0, 0), (0, n), (2, 35)]) rfl ?_
    refine jiald hF (by decide +kernel) (by exact hS.k88) (by omega) (by have := hS.l88; omega) ?_
    refine jiald hF (by decide +kernel) (by exact hS.k47) (by omega) (by have := hS.l47; omega) ?_
    refine jblk hF [(.iconst 1, 1), (.isub, 1)] (by decide +kernel) (pc' := 24) (lo' := [(0, (2, 35)), (1, (0, c)), (2, (0, n))]) (st' := [(0, (mem 47 (mem 88 c)) - 1), (0, 0), (0, n), (2, 35)]) rfl ?_
    refine jcallS hF (c_X12_in hG n 0 ((mem 47 (mem 88 c)) - 1) (by omega) (by decide) (by omega)) MW_X12_in wd_1743 wd_1744 (by decide +kernel) [(2, 35)] rfl rfl (by decide) (Nat.le_of_ble_eq_true rfl) (by decide) (kB (fun h_3 => ?_) (fun h_3 => ?_))
    · refine jif_eq hF (off := 7) 34 (by decide +kernel) (by decide) (by decide) (fun h => absurd h (by decide)) (fun _ => ?_)
      refine jblk hF [(.iconst 0, 1)] (by decide +kernel) (pc' := 31) (lo' := [(0, (2, 35)), (1, (0, c)), (2, (0, n))]) (st' := [(0, 0), (2, 35)]) rfl ?_
      refine jgoto hF (off := 4) 35 (by decide +kernel) (by decide) ?_
      refine jput hF 13 1 0 1 rfl (by decide) (by decide) rfl wd_1464 (by decide +kernel) rfl (Or.inl rfl) (by exact hS.k35) (fun h => by cases h) ?_
      refine jblk hF [(.aload_n 0, 1)] (by decide +kernel) (pc' := 39) (lo' := [(0, (2, 35)), (1, (0, c)), (2, (0, n))]) (st' := [(2, 35)]) rfl ?_
      refine jget hF 13 1 0 1 rfl (by decide) (by decide) rfl wd_1464 (by decide +kernel) (by exact hS.k35) ?_
      rw [show (set2 mem 35 1 0) 35 1 = 0 from s2_s]
      refine jblk hF [(.iconst 1, 1)] (by decide +kernel) (pc' := 43) (lo' := [(0, (2, 35)), (1, (0, c)), (2, (0, n))]) (st' := [(0, 1), (0, 0)]) rfl ?_
      refine jicmp_ne hF (off := 7) 50 (by decide +kernel) (by decide) (by decide) (by decide) (fun _ => ?_) (fun h => absurd h (by decide))
      refine jblk hF [(.aload_n 0, 1)] (by decide +kernel) (pc' := 51) (lo' := [(0, (2, 35)), (1, (0, c)), (2, (0, n))]) (st' := [(2, 35)]) rfl ?_
      refine jget hF 13 74 2 74 rfl (by decide) (by decide) rfl wd_1537 (by decide +kernel) (by exact hS.k35) ?_
      rw [SR.r74 (SR.s hR (Or.inr (by decide)))]
      refine jblk hF [(.bipush 40, 2), (.iload_n 1, 1), (.imul, 1), (.iload_n 2, 1), (.iadd, 1)] (by decide +kernel) (pc' := 60) (lo' := [(0, (2, 35)), (1, (0, c)), (2, (0, n))]) (st' := [(0, (40 * c) + n), (2, 89)]) rfl ?_
      refine jlald hF (by decide +kernel) (by exact hS.k89) (by omega) (by have := hS.l89; omega) ?_
      rw [show (set2 mem 35 1 0) 89 ((40 * c) + n) = mem 89 ((40 * c) + n) from (s2_a (by decide))]
      refine jlret hF hr (by decide +kernel) ?_
      exact lMR ⟨(SR.s hR (Or.inr (by decide))), by first | exact ⟨fun h => absurd h (by omega), fun _ => ⟨rfl, rfl⟩⟩ | exact ⟨fun _ => ⟨rfl, rfl⟩, fun h => absurd (by omega) h⟩⟩
    · refine jif_eq hF (off := 7) 34 (by decide +kernel) (by decide) (by decide) (fun _ => ?_) (fun h => absurd h (by decide))
      refine jblk hF [(.iconst 1, 1)] (by decide +kernel) (pc' := 35) (lo' := [(0, (2, 35)), (1, (0, c)), (2, (0, n))]) (st' := [(0, 1), (2, 35)]) rfl ?_
      refine jput hF 13 1 0 1 rfl (by decide) (by decide) rfl wd_1464 (by decide +kernel) rfl (Or.inl rfl) (by exact hS.k35) (fun h => by cases h) ?_
      refine jblk hF [(.aload_n 0, 1)] (by decide +kernel) (pc' := 39) (lo' := [(0, (2, 35)), (1, (0, c)), (2, (0, n))]) (st' := [(2, 35)]) rfl ?_
      refine jget hF 13 1 0 1 rfl (by decide) (by decide) rfl wd_1464 (by decide +kernel) (by exact hS.k35) ?_
      rw [show (set2 mem 35 1 1) 35 1 = 1 from s2_s]
      refine jblk hF [(.iconst 1, 1)] (by decide +kernel) (pc' := 43) (lo' := [(0, (2, 35)), (1, (0, c)), (2, (0, n))]) (st' := [(0, 1), (0, 1)]) rfl ?_
      refine jicmp_ne hF (off := 7) 50 (by decide +kernel) (by decide) (by decide) (by decide) (fun h => absurd h (by decide)) (fun _ => ?_)
      refine jlconst hF (n := 0) 0 rfl (by decide +kernel) ?_
      refine jgoto hF (off := 14) 61 (by decide +kernel) (by decide) ?_
      refine jlret hF hr (by decide +kernel) ?_
      exact lMR ⟨(SR.s hR (Or.inr (by decide))), by first | exact ⟨fun h => absurd h (by omega), fun _ => ⟨rfl, rfl⟩⟩ | exact ⟨fun _ => ⟨rfl, rfl⟩, fun h => absurd (by omega) h⟩⟩
  · refine jif_eq hF (off := 28) 34 (by decide +kernel) (by decide) (by decide) (fun _ => ?_) (fun h => absurd h (by decide))
    refine jblk hF [(.iconst 1, 1)] (by decide +kernel) (pc' := 35) (lo' := [(0, (2, 35)), (1, (0, c)), (2, (0, n))]) (st' := [(0, 1), (2, 35)]) rfl ?_
    refine jput hF 13 1 0 1 rfl (by decide) (by decide) rfl wd_1464 (by decide +kernel) rfl (Or.inl rfl) (by exact hS.k35) (fun h => by cases h) ?_
    refine jblk hF [(.aload_n 0, 1)] (by decide +kernel) (pc' := 39) (lo' := [(0, (2, 35)), (1, (0, c)), (2, (0, n))]) (st' := [(2, 35)]) rfl ?_
    refine jget hF 13 1 0 1 rfl (by decide) (by decide) rfl wd_1464 (by decide +kernel) (by exact hS.k35) ?_
    rw [show (set2 mem 35 1 1) 35 1 = 1 from s2_s]
    refine jblk hF [(.iconst 1, 1)] (by decide +kernel) (pc' := 43) (lo' := [(0, (2, 35)), (1, (0, c)), (2, (0, n))]) (st' := [(0, 1), (0, 1)]) rfl ?_
    refine jicmp_ne hF (off := 7) 50 (by decide +kernel) (by decide) (by decide) (by decide) (fun h => absurd h (by decide)) (fun _ => ?_)
    refine jlconst hF (n := 0) 0 rfl (by decide +kernel) ?_
    refine jgoto hF (off := 14) 61 (by decide +kernel) (by decide) ?_
    refine jlret hF hr (by decide +kernel) ?_
    exact lMR ⟨(SR.s hR (Or.inr (by decide))), by first | exact ⟨fun h => absurd h (by omega), fun _ => ⟨rfl, rfl⟩⟩ | exact ⟨fun _ => ⟨rfl, rfl⟩, fun h => absurd (by omega) h⟩⟩
set_option maxHeartbeats 4000000 in
set_option maxRecDepth 100000 in
theorem c_X12_errors {l : Launch} {g : GP} (hG : GH g) {kd : Int → Nat} {ln : Int → Int} {mem : Int → Int → Int} {sz : Nat} (hS : SK kd ln) (hR : SR mem) (c : Int) (h_c : InI c) (hPS : PGS mem) (hCP : CPS mem) : MT l g yX12_errors cX12_errors 5 (some .int) 4 0 0 [(2, 35), (0, c)] kd ln mem sz (pV (0, if isCp mem c then erN mem c (mem 88 c) (mem 47 (mem 88 c)).toNat else -1) kd ln mem sz) := by
  refine MT_of hG (by decide +kernel) (Nat.le_of_ble_eq_true rfl) (fun z hF hr hn => ?_)
  refine jblk hF [(.aload_n 0, 1), (.iload_n 1, 1)] (by decide +kernel) (pc' := 2) (lo' := [(0, (2, 35)), (1, (0, c))]) (st' := [(0, c), (2, 35)]) rfl ?_
  refine jcallV hF (c_X12_isCopy hG hS hR c (by omega) (by exact hCP)) MW_X12_isCopy 13 (by decide) (by exact hS.k35) wd_2190 wd_2192 wd_p100 (by decide +kernel) [] rfl rfl (by decide) (Nat.le_of_ble_eq_true rfl) (by decide) (kB (fun h_1 => ?_) (fun h_1 => ?_))
  · refine jif_ne hF (off := 5) 10 (by decide +kernel) (by decide) (by decide) (fun _ => ?_) (fun h => absurd h (by decide))
    have hc := hCP.2.2 c (by omega) (by omega)
    have hp := hPS.2.2 (mem 88 c) (by omega) (by omega)
    refine jblk hF [(.aload_n 0, 1)] (by decide +kernel) (pc' := 11) (lo' := [(0, (2, 35)), (1, (0, c))]) (st' := [(2, 35)]) rfl ?_
    refine jget hF 13 73 2 73 rfl (by decide) (by decide) rfl wd_1536 (by decide +kernel) (by exact hS.k35) ?_
    rw [SR.r73 hR]
    refine jblk hF [(.iload_n 1, 1)] (by decide +kernel) (pc' := 15) (lo' := [(0, (2, 35)), (1, (0, c))]) (st' := [(0, c), (2, 88)]) rfl ?_
    refine jiald hF (by decide +kernel) (by exact hS.k88) (by omega) (by have := hS.l88; omega) ?_
    refine jblk hF [(.istore_n 2, 1), (.iconst 0, 1), (.istore_n 3, 1), (.iconst 0, 1), (.istore 4, 2)] (by decide +kernel) (pc' := 22) (lo' := [(4, (0, 0)), (3, (0, 0)), (2, (0, mem 88 c)), (0, (2, 35)), (1, (0, c))]) (st' := []) rfl ?_
    have L_4 : ∀ (fu_5 : Nat) (k : Int) (n : Int), (0 ≤ n ∧ n ≤ mem 47 (mem 88 c)) → (k = erN mem c (mem 88 c) n.toNat) →  (mem 47 (mem 88 c) - n).toNat < fu_5 → J z g 5 0 0 (QM z g 0 0 (pV (0, if isCp mem c then erN mem c (mem 88 c) (mem 47 (mem 88 c)).toNat else -1) kd ln mem sz)) 22 [(0, (2, 35)), (1, (0, c)), (2, (0, mem 88 c)), (3, (0, k)), (4, (0, n))] [] kd ln mem sz := by
      intro fu_5
      induction fu_5 with
      | zero => intro k n _ _ hm; omega
      | succ fu_5 ih_3 =>
        intro k n hn1 hk hm
        have hb := erN_bd mem c (mem 88 c) n.toNat
        refine jblk hF [(.iload 4, 2), (.aload_n 0, 1)] (by decide +kernel) (pc' := 25) (lo' := [(0, (2, 35)), (1, (0, c)), (2, (0, mem 88 c)), (3, (0, k)), (4, (0, n))]) (st' := [(2, 35), (0, n)]) rfl ?_
        refine jget hF 13 22 2 22 rfl (by decide) (by decide) rfl wd_1485 (by decide +kernel) (by exact hS.k35) ?_
        rw [SR.r22 hR]
        refine jblk hF [(.iload_n 2, 1)] (by decide +kernel) (pc' := 29) (lo' := [(0, (2, 35)), (1, (0, c)), (2, (0, mem 88 c)), (3, (0, k)), (4, (0, n))]) (st' := [(0, mem 88 c), (2, 47), (0, n)]) rfl ?_
        refine jiald hF (by decide +kernel) (by exact hS.k47) (by omega) (by have := hS.l47; omega) ?_
        refine jicmp_ge hF (off := 40) 70 (by decide +kernel) (by decide) (by omega) (by omega) (fun h_6 => ?_) (fun h_6 => ?_)
        · refine jblk hF [(.iload_n 3, 1)] (by decide +kernel) (pc' := 71) (lo' := [(0, (2, 35)), (1, (0, c)), (2, (0, mem 88 c)), (3, (0, k)), (4, (0, n))]) (st' := [(0, k)]) rfl ?_
          refine jiret hF hr (by decide +kernel) ?_
          exact lV (by rw [if_pos (by omega), hk]; congr 1; omega)
        · refine jblk hF [(.iload_n 3, 1), (.aload_n 0, 1)] (by decide +kernel) (pc' := 35) (lo' := [(0, (2, 35)), (1, (0, c)), (2, (0, mem 88 c)), (3, (0, k)), (4, (0, n))]) (st' := [(2, 35), (0, k)]) rfl ?_
          refine jget hF 13 74 2 74 rfl (by decide) (by decide) rfl wd_1537 (by decide +kernel) (by exact hS.k35) ?_
          rw [SR.r74 hR]
          refine jblk hF [(.bipush 40, 2), (.iload_n 1, 1), (.imul, 1), (.iload 4, 2), (.iadd, 1)] (by decide +kernel) (pc' := 45) (lo' := [(0, (2, 35)), (1, (0, c)), (2, (0, mem 88 c)), (3, (0, k)), (4, (0, n))]) (st' := [(0, (40 * c) + n), (2, 89), (0, k)]) rfl ?_
          refine jlald hF (by decide +kernel) (by exact hS.k89) (by omega) (by have := hS.l89; omega) ?_
          refine jblk hF [(.aload_n 0, 1), (.iload_n 2, 1), (.iload 4, 2)] (by decide +kernel) (pc' := 50) (lo' := [(0, (2, 35)), (1, (0, c)), (2, (0, mem 88 c)), (3, (0, k)), (4, (0, n))]) (st' := [(0, n), (0, mem 88 c), (2, 35), (1, mem 89 ((40 * c) + n)), (0, k)]) rfl ?_
          refine jcallV hF (c_X12_rightOf hG hS hR (mem 88 c) n (by first | omega | exact hE.fPG hp | exact (EQ36.f _ _).fPG hp) (by first | omega | (rw [hE.at 47 (by decide)]; omega) | (rw [(EQ36.f 1 0 : EQ36 mem _).at 47 (by decide)]; omega))) MW_X12_rightOf 13 (by decide) (by exact hS.k35) wd_2031 wd_2033 wd_p88 (by decide +kernel) [(1, mem 89 ((40 * c) + n)), (0, k)] rfl rfl (by decide) (Nat.le_of_ble_eq_true rfl) (by decide) (kV ?_)
          refine jlcmpW_eq hF (off := 7) 61 (by decide +kernel) (by decide +kernel) (by decide) (fun h_7 => ?_) (fun h_7 => ?_)
          · refine jblk hF [(.iconst 0, 1), (.iadd, 1), (.istore_n 3, 1), (.iinc 4 1, 3)] (by decide +kernel) (pc' := 67) (lo' := [(4, (0, n + 1)), (3, (0, k + 0)), (0, (2, 35)), (1, (0, c)), (2, (0, mem 88 c))]) (st' := []) rfl ?_
            refine jgoto hF (off := (-45)) 22 (by decide +kernel) (by decide) ?_
            refine jsub [2, 3, 4, 1, 0] rfl ?_
            refine ih_3 (k + 0) (n + 1) ?_ ?_ ?_
            · omega
            · rw [erN_s (by omega)]; first | (rw [if_pos (by assumption)]; omega) | (rw [if_neg (by assumption)]; omega)
            · omega
          · refine jblk hF [(.iconst 1, 1)] (by decide +kernel) (pc' := 58) (lo' := [(0, (2, 35)), (1, (0, c)), (2, (0, mem 88 c)), (3, (0, k)), (4, (0, n))]) (st' := [(0, 1), (0, k)]) rfl ?_
            refine jgoto hF (off := 4) 62 (by decide +kernel) (by decide) ?_
            refine jblk hF [(.iadd, 1), (.istore_n 3, 1), (.iinc 4 1, 3)] (by decide +kernel) (pc' := 67) (lo' := [(4, (0, n + 1)), (3, (0, k + 1)), (0, (2, 35)), (1, (0, c)), (2, (0, mem 88 c))]) (st' := []) rfl ?_
            refine jgoto hF (off := (-45)) 22 (by decide +kernel) (by decide) ?_
            refine jsub [2, 3, 4, 1, 0] rfl ?_
            refine ih_3 (k + 1) (n + 1) ?_ ?_ ?_
            · omega
            · rw [erN_s (by omega)]; first | (rw [if_pos (by assumption)]; omega) | (rw [if_neg (by assumption)]; omega)
            · omega
    refine jsub [3, 4, 2, 1, 0] rfl ?_
    refine L_4 _ 0 0 ?_ ?_ (Nat.lt_succ_self _)
    · omega
    · rfl
  · refine jif_ne hF (off := 5) 10 (by decide +kernel) (by decide) (by decide) (fun h => absurd h (by decide)) (fun _ => ?_)
    refine jblk hF [(.iconst (-1), 1)] (by decide +kernel) (pc' := 9) (lo' := [(0, (2, 35)), (1, (0, c))]) (st' := [(0, (-1))]) rfl ?_
    refine jiret hF hr (by decide +kernel) ?_
    exact lV (by exact (if_neg (by omega)).symm)
set_option maxHeartbeats 4000000 in
set_option maxRecDepth 100000 in
theorem c_X12_other {l : Launch} {g : GP} (hG : GH g) {kd : Int → Nat} {ln : Int → Int} {mem : Int → Int → Int} {sz : Nat} (hS : SK kd ln) (hR : SR mem) (p : Int) (h_p : InI p) (hPg : 0 ≤ mem 35 33 ∧ mem 35 33 ≤ 12) (hOT : OTS mem) : MT l g yX12_other cX12_other 2 (some .int) 2 0 0 [(2, 35), (0, p)] kd ln mem sz (pMR 0 (fun v mem' => SR mem' ∧ (((isPg mem p ∧ mem 35 84 ≠ 8) → v = mem 35 84 ∧ mem' = set2 (set2 mem 94 (mem 35 84) p) 35 84 (mem 35 84 + 1)) ∧ (¬ (isPg mem p ∧ mem 35 84 ≠ 8) → v = -1 ∧ mem' = mem))) kd ln sz) := by
  refine MT_of hG (by decide +kernel) (Nat.le_of_ble_eq_true rfl) (fun z hF hr hn => ?_)
  refine jblk hF [(.aload_n 0, 1), (.iload_n 1, 1)] (by decide +kernel) (pc' := 2) (lo' := [(0, (2, 35)), (1, (0, p))]) (st' := [(0, p), (2, 35)]) rfl ?_
  refine jcallV hF (c_X12_isPage hG hS hR p (by omega) (by omega)) MW_X12_isPage 13 (by decide) (by exact hS.k35) wd_1930 wd_1932 wd_p71 (by decide +kernel) [] rfl rfl (by decide) (Nat.le_of_ble_eq_true rfl) (by decide) (kB (fun h_1 => ?_) (fun h_1 => ?_))
  · refine jif_eq hF (off := 12) 17 (by decide +kernel) (by decide) (by decide) (fun h => absurd h (by decide)) (fun _ => ?_)
    refine jblk hF [(.aload_n 0, 1)] (by decide +kernel) (pc' := 9) (lo' := [(0, (2, 35)), (1, (0, p))]) (st' := [(2, 35)]) rfl ?_
    refine jget hF 13 84 0 84 rfl (by decide) (by decide) rfl wd_1547 (by decide +kernel) (by exact hS.k35) ?_
    refine jblk hF [(.bipush 8, 2)] (by decide +kernel) (pc' := 14) (lo' := [(0, (2, 35)), (1, (0, p))]) (st' := [(0, 8), (0, mem 35 84)]) rfl ?_
    refine jicmp_ne hF (off := 5) 19 (by decide +kernel) (by decide) (by omega) (by decide) (fun h_3 => ?_) (fun h_3 => ?_)
    · refine jblk hF [(.aload_n 0, 1)] (by decide +kernel) (pc' := 20) (lo' := [(0, (2, 35)), (1, (0, p))]) (st' := [(2, 35)]) rfl ?_
      refine jget hF 13 81 2 81 rfl (by decide) (by decide) rfl wd_1544 (by decide +kernel) (by exact hS.k35) ?_
      rw [SR.r81 hR]
      refine jblk hF [(.aload_n 0, 1)] (by decide +kernel) (pc' := 24) (lo' := [(0, (2, 35)), (1, (0, p))]) (st' := [(2, 35), (2, 94)]) rfl ?_
      refine jget hF 13 84 0 84 rfl (by decide) (by decide) rfl wd_1547 (by decide +kernel) (by exact hS.k35) ?_
      refine jblk hF [(.iload_n 1, 1)] (by decide +kernel) (pc' := 28) (lo' := [(0, (2, 35)), (1, (0, p))]) (st' := [(0, p), (0, mem 35 84), (2, 94)]) rfl ?_
      refine jiast hF (by decide +kernel) (by decide) (by exact hS.k94) (by omega) (by have := hS.l94; omega) ?_
      refine jblk hF [(.aload_n 0, 1), (.dup, 1)] (by decide +kernel) (pc' := 31) (lo' := [(0, (2, 35)), (1, (0, p))]) (st' := [(2, 35), (2, 35)]) rfl ?_
      refine jget hF 13 84 0 84 rfl (by decide) (by decide) rfl wd_1547 (by decide +kernel) (by exact hS.k35) ?_
      rw [show (set2 mem 94 (mem 35 84) p) 35 84 = mem 35 84 from (s2_a (by decide))]
      refine jblk hF [(.iconst 1, 1), (.iadd, 1)] (by decide +kernel) (pc' := 36) (lo' := [(0, (2, 35)), (1, (0, p))]) (st' := [(0, (mem 35 84) + 1), (2, 35)]) rfl ?_
      refine jput hF 13 84 0 84 rfl (by decide) (by decide) rfl wd_1547 (by decide +kernel) rfl (Or.inl rfl) (by exact hS.k35) (fun h => by cases h) ?_
      refine jblk hF [(.aload_n 0, 1)] (by decide +kernel) (pc' := 40) (lo' := [(0, (2, 35)), (1, (0, p))]) (st' := [(2, 35)]) rfl ?_
      refine jget hF 13 84 0 84 rfl (by decide) (by decide) rfl wd_1547 (by decide +kernel) (by exact hS.k35) ?_
      rw [show (set2 (set2 mem 94 (mem 35 84) p) 35 84 ((mem 35 84) + 1)) 35 84 = (mem 35 84) + 1 from s2_s]
      refine jblk hF [(.iconst 1, 1), (.isub, 1)] (by decide +kernel) (pc' := 45) (lo' := [(0, (2, 35)), (1, (0, p))]) (st' := [(0, ((mem 35 84) + 1) - 1)]) rfl ?_
      refine jiret hF hr (by decide +kernel) ?_
      exact lMR ⟨(SR.s (SR.s hR (Or.inl (by decide))) (Or.inr (by decide))), by first | exact ⟨fun h => absurd h (by omega), fun _ => ⟨rfl, rfl⟩⟩ | exact ⟨fun _ => ⟨by omega, rfl⟩, fun h => absurd (by omega) h⟩⟩
    · refine jblk hF [(.iconst (-1), 1)] (by decide +kernel) (pc' := 18) (lo' := [(0, (2, 35)), (1, (0, p))]) (st' := [(0, (-1))]) rfl ?_
      refine jiret hF hr (by decide +kernel) ?_
      exact lMR ⟨hR, by first | exact ⟨fun h => absurd h (by omega), fun _ => ⟨rfl, rfl⟩⟩ | exact ⟨fun _ => ⟨by omega, rfl⟩, fun h => absurd (by omega) h⟩⟩
  · refine jif_eq hF (off := 12) 17 (by decide +kernel) (by decide) (by decide) (fun _ => ?_) (fun h => absurd h (by decide))
    refine jblk hF [(.iconst (-1), 1)] (by decide +kernel) (pc' := 18) (lo' := [(0, (2, 35)), (1, (0, p))]) (st' := [(0, (-1))]) rfl ?_
    refine jiret hF hr (by decide +kernel) ?_
    exact lMR ⟨hR, by first | exact ⟨fun h => absurd h (by omega), fun _ => ⟨rfl, rfl⟩⟩ | exact ⟨fun _ => ⟨by omega, rfl⟩, fun h => absurd (by omega) h⟩⟩
set_option maxHeartbeats 4000000 in
set_option maxRecDepth 100000 in
theorem c_X12_tell {l : Launch} {g : GP} (hG : GH g) {kd : Int → Nat} {ln : Int → Int} {mem : Int → Int → Int} {sz : Nat} (hS : SK kd ln) (hR : SR mem) (t n v : Int) (h_t : InI t) (h_n : InI n) (hPS : PGS mem) (hOT : OTS mem) : MT l g yX12_tell cX12_tell 5 (some .boolean) 1 0 0 [(2, 35), (0, t), (0, n), (1, v)] kd ln mem sz (pMB (fun c mem' => SR mem' ∧ ((c ↔ tellC mem t n) ∧ mem' = (if tellC mem t n then tellM mem t n v else mem))) kd ln sz) := by
  refine MT_of hG (by decide +kernel) (Nat.le_of_ble_eq_true rfl) (fun z hF hr hn => ?_)
  refine jblk hF [(.iload_n 1, 1), (.iconst 0, 1), (.aload_n 0, 1)] (by decide +kernel) (pc' := 3) (lo' := [(0, (2, 35)), (1, (0, t)), (2, (0, n)), (3, (1, v))]) (st' := [(2, 35), (0, 0), (0, t)]) rfl ?_
  refine jget hF 13 84 0 84 rfl (by decide) (by decide) rfl wd_1547 (by decide +kernel) (by exact hS.k35) ?_
  refine jblk hF [(.iconst 1, 1), (.isub, 1)] (by decide +kernel) (pc' := 8) (lo' := [(0, (2, 35)), (1, (0, t)), (2, (0, n)), (3, (1, v))]) (st' := [(0, (mem 35 84) - 1), (0, 0), (0, t)]) rfl ?_
  refine jcallS hF (c_X12_in hG t 0 ((mem 35 84) - 1) (by omega) (by decide) (by omega)) MW_X12_in wd_1743 wd_1744 (by decide +kernel) [] rfl rfl (by decide) (Nat.le_of_ble_eq_true rfl) (by decide) (kB (fun h_1 => ?_) (fun h_1 => ?_))
  · refine jif_eq hF (off := 24) 35 (by decide +kernel) (by decide) (by decide) (fun h => absurd h (by decide)) (fun _ => ?_)
    have ht := hOT.2.2 t (by omega) (by omega)
    have hp := hPS.2.2 (mem 94 t) (by omega) (by omega)
    refine jblk hF [(.iload_n 2, 1), (.iconst 0, 1), (.aload_n 0, 1)] (by decide +kernel) (pc' := 17) (lo' := [(0, (2, 35)), (1, (0, t)), (2, (0, n)), (3, (1, v))]) (st' := [(2, 35), (0, 0), (0, n)]) rfl ?_
    refine jget hF 13 22 2 22 rfl (by decide) (by decide) rfl wd_1485 (by decide +kernel) (by exact hS.k35) ?_
    rw [SR.r22 hR]
    refine jblk hF [(.aload_n 0, 1)] (by decide +kernel) (pc' := 21) (lo' := [(0, (2, 35)), (1, (0, t)), (2, (0, n)), (3, (1, v))]) (st' := [(2, 35), (2, 47), (0, 0), (0, n)]) rfl ?_
    refine jget hF 13 81 2 81 rfl (by decide) (by decide) rfl wd_1544 (by decide +kernel) (by exact hS.k35) ?_
    rw [SR.r81 hR]
    refine jblk hF [(.iload_n 1, 1)] (by decide +kernel) (pc' := 25) (lo' := [(0, (2, 35)), (1, (0, t)), (2, (0, n)), (3, (1, v))]) (st' := [(0, t), (2, 94), (2, 47), (0, 0), (0, n)]) rfl ?_
    refine jiald hF (by decide +kernel) (by exact hS.k94) (by omega) (by have := hS.l94; omega) ?_
    refine jiald hF (by decide +kernel) (by exact hS.k47) (by omega) (by have := hS.l47; omega) ?_
    refine jblk hF [(.iconst 1, 1), (.isub, 1)] (by decide +kernel) (pc' := 29) (lo' := [(0, (2, 35)), (1, (0, t)), (2, (0, n)), (3, (1, v))]) (st' := [(0, (mem 47 (mem 94 t)) - 1), (0, 0), (0, n)]) rfl ?_
    refine jcallS hF (c_X12_in hG n 0 ((mem 47 (mem 94 t)) - 1) (by omega) (by decide) (by omega)) MW_X12_in wd_1743 wd_1744 (by decide +kernel) [] rfl rfl (by decide) (Nat.le_of_ble_eq_true rfl) (by decide) (kB (fun h_3 => ?_) (fun h_3 => ?_))
    · refine jif_ne hF (off := 5) 37 (by decide +kernel) (by decide) (by decide) (fun _ => ?_) (fun h => absurd h (by decide))
      refine jblk hF [(.aload_n 0, 1)] (by decide +kernel) (pc' := 38) (lo' := [(0, (2, 35)), (1, (0, t)), (2, (0, n)), (3, (1, v))]) (st' := [(2, 35)]) rfl ?_
      refine jget hF 13 82 2 82 rfl (by decide) (by decide) rfl wd_1545 (by decide +kernel) (by exact hS.k35) ?_
      rw [SR.r82 hR]
      refine jblk hF [(.bipush 40, 2), (.iload_n 1, 1), (.imul, 1), (.iload_n 2, 1), (.iadd, 1), (.lload_n 3, 1)] (by decide +kernel) (pc' := 48) (lo' := [(0, (2, 35)), (1, (0, t)), (2, (0, n)), (3, (1, v))]) (st' := [(1, v), (0, (40 * t) + n), (2, 95)]) rfl ?_
      refine jlast hF (by decide +kernel) (by decide) (by exact hS.k95) (by omega) (by have := hS.l95; omega) ?_
      refine jblk hF [(.aload_n 0, 1)] (by decide +kernel) (pc' := 50) (lo' := [(0, (2, 35)), (1, (0, t)), (2, (0, n)), (3, (1, v))]) (st' := [(2, 35)]) rfl ?_
      refine jget hF 13 83 2 83 rfl (by decide) (by decide) rfl wd_1546 (by decide +kernel) (by exact hS.k35) ?_
      rw [SR.r83 (SR.s hR (Or.inl (by decide)))]
      refine jblk hF [(.bipush 40, 2), (.iload_n 1, 1), (.imul, 1), (.iload_n 2, 1), (.iadd, 1), (.lload_n 3, 1)] (by decide +kernel) (pc' := 60) (lo' := [(0, (2, 35)), (1, (0, t)), (2, (0, n)), (3, (1, v))]) (st' := [(1, v), (0, (40 * t) + n), (2, 96)]) rfl ?_
      refine jldc2 hF (-1) (cst_l wd_1793 (by decide)) (by decide +kernel) ?_
      refine jlcmpW_eq hF (off := 7) 71 (by decide +kernel) (by decide +kernel) (by decide) (fun h_5 => ?_) (fun h_5 => ?_)
      · refine jblk hF [(.iconst 0, 1)] (by decide +kernel) (pc' := 72) (lo' := [(0, (2, 35)), (1, (0, t)), (2, (0, n)), (3, (1, v))]) (st' := [(0, 0), (0, (40 * t) + n), (2, 96)]) rfl ?_
        refine jzast hF (by decide +kernel) (by decide) (by exact hS.k96) (by omega) (by have := hS.l96; omega) (by omega) ?_
        refine jblk hF [(.iconst 1, 1)] (by decide +kernel) (pc' := 74) (lo' := [(0, (2, 35)), (1, (0, t)), (2, (0, n)), (3, (1, v))]) (st' := [(0, 1)]) rfl ?_
        refine jzret hF hr (by omega) (by decide +kernel) ?_
        exact lMB1 ⟨(SR.s (SR.s hR (Or.inl (by decide))) (Or.inl (by decide))), by first | exact ⟨⟨fun h => h.elim, fun h => absurd h (by omega)⟩, (if_neg (by omega)).symm⟩ | exact ⟨⟨fun _ => by omega, fun _ => trivial⟩, by rw [if_pos (by omega)]; unfold tellM; first | rw [if_pos (by assumption)] | rw [if_neg (by assumption)]⟩⟩
      · refine jblk hF [(.iconst 1, 1)] (by decide +kernel) (pc' := 68) (lo' := [(0, (2, 35)), (1, (0, t)), (2, (0, n)), (3, (1, v))]) (st' := [(0, 1), (0, (40 * t) + n), (2, 96)]) rfl ?_
        refine jgoto hF (off := 4) 72 (by decide +kernel) (by decide) ?_
        refine jzast hF (by decide +kernel) (by decide) (by exact hS.k96) (by omega) (by have := hS.l96; omega) (by omega) ?_
        refine jblk hF [(.iconst 1, 1)] (by decide +kernel) (pc' := 74) (lo' := [(0, (2, 35)), (1, (0, t)), (2, (0, n)), (3, (1, v))]) (st' := [(0, 1)]) rfl ?_
        refine jzret hF hr (by omega) (by decide +kernel) ?_
        exact lMB1 ⟨(SR.s (SR.s hR (Or.inl (by decide))) (Or.inl (by decide))), by first | exact ⟨⟨fun h => h.elim, fun h => absurd h (by omega)⟩, (if_neg (by omega)).symm⟩ | exact ⟨⟨fun _ => by omega, fun _ => trivial⟩, by rw [if_pos (by omega)]; unfold tellM; first | rw [if_pos (by assumption)] | rw [if_neg (by assumption)]⟩⟩
    · refine jif_ne hF (off := 5) 37 (by decide +kernel) (by decide) (by decide) (fun h => absurd h (by decide)) (fun _ => ?_)
      refine jblk hF [(.iconst 0, 1)] (by decide +kernel) (pc' := 36) (lo' := [(0, (2, 35)), (1, (0, t)), (2, (0, n)), (3, (1, v))]) (st' := [(0, 0)]) rfl ?_
      refine jzret hF hr (by omega) (by decide +kernel) ?_
      exact lMB0 ⟨hR, by first | exact ⟨⟨fun h => h.elim, fun h => absurd h (by omega)⟩, (if_neg (by omega)).symm⟩ | exact ⟨⟨fun _ => by omega, fun _ => trivial⟩, by rw [if_pos (by omega)]; unfold tellM; first | rw [if_pos (by assumption)] | rw [if_neg (by assumption)]⟩⟩
  · refine jif_eq hF (off := 24) 35 (by decide +kernel) (by decide) (by decide) (fun _ => ?_) (fun h => absurd h (by decide))
    refine jblk hF [(.iconst 0, 1)] (by decide +kernel) (pc' := 36) (lo' := [(0, (2, 35)), (1, (0, t)), (2, (0, n)), (3, (1, v))]) (st' := [(0, 0)]) rfl ?_
    refine jzret hF hr (by omega) (by decide +kernel) ?_
    exact lMB0 ⟨hR, by first | exact ⟨⟨fun h => h.elim, fun h => absurd h (by omega)⟩, (if_neg (by omega)).symm⟩ | exact ⟨⟨fun _ => by omega, fun _ => trivial⟩, by rw [if_pos (by omega)]; unfold tellM; first | rw [if_pos (by assumption)] | rw [if_neg (by assumption)]⟩⟩
set_option maxHeartbeats 4000000 in
set_option maxRecDepth 100000 in
theorem c_X12_sheet {l : Launch} {g : GP} (hG : GH g) {kd : Int → Nat} {ln : Int → Int} {mem : Int → Int → Int} {sz : Nat} (hS : SK kd ln) (hR : SR mem) (k : Int) (h_k : InI k) (hSH : SHS mem) : MT l g yX12_sheet cX12_sheet 2 (some .int) 1 0 0 [(2, 35), (0, k)] kd ln mem sz (pMR 0 (fun v mem' => SR mem' ∧ ((((0 ≤ k ∧ k ≤ 2) ∧ mem 35 88 ≠ 8) → v = mem 35 88 ∧ mem' = set2 (set2 mem 97 (mem 35 88) k) 35 88 (mem 35 88 + 1)) ∧ (¬ ((0 ≤ k ∧ k ≤ 2) ∧ mem 35 88 ≠ 8) → v = -1 ∧ mem' = mem))) kd ln sz) := by
  refine MT_of hG (by decide +kernel) (Nat.le_of_ble_eq_true rfl) (fun z hF hr hn => ?_)
  refine jblk hF [(.iload_n 1, 1), (.iconst 0, 1), (.iconst 2, 1)] (by decide +kernel) (pc' := 3) (lo' := [(0, (2, 35)), (1, (0, k))]) (st' := [(0, 2), (0, 0), (0, k)]) rfl ?_
  refine jcallS hF (c_X12_in hG k 0 2 (by omega) (by decide) (by decide)) MW_X12_in wd_1743 wd_1744 (by decide +kernel) [] rfl rfl (by decide) (Nat.le_of_ble_eq_true rfl) (by decide) (kB (fun h_1 => ?_) (fun h_1 => ?_))
  · refine jif_eq hF (off := 12) 18 (by decide +kernel) (by decide) (by decide) (fun h => absurd h (by decide)) (fun _ => ?_)
    refine jblk hF [(.aload_n 0, 1)] (by decide +kernel) (pc' := 10) (lo' := [(0, (2, 35)), (1, (0, k))]) (st' := [(2, 35)]) rfl ?_
    refine jget hF 13 88 0 88 rfl (by decide) (by decide) rfl wd_1551 (by decide +kernel) (by exact hS.k35) ?_
    refine jblk hF [(.bipush 8, 2)] (by decide +kernel) (pc' := 15) (lo' := [(0, (2, 35)), (1, (0, k))]) (st' := [(0, 8), (0, mem 35 88)]) rfl ?_
    refine jicmp_ne hF (off := 5) 20 (by decide +kernel) (by decide) (by omega) (by decide) (fun h_3 => ?_) (fun h_3 => ?_)
    · refine jblk hF [(.aload_n 0, 1)] (by decide +kernel) (pc' := 21) (lo' := [(0, (2, 35)), (1, (0, k))]) (st' := [(2, 35)]) rfl ?_
      refine jget hF 13 85 2 85 rfl (by decide) (by decide) rfl wd_1548 (by decide +kernel) (by exact hS.k35) ?_
      rw [SR.r85 hR]
      refine jblk hF [(.aload_n 0, 1)] (by decide +kernel) (pc' := 25) (lo' := [(0, (2, 35)), (1, (0, k))]) (st' := [(2, 35), (2, 97)]) rfl ?_
      refine jget hF 13 88 0 88 rfl (by decide) (by decide) rfl wd_1551 (by decide +kernel) (by exact hS.k35) ?_
      refine jblk hF [(.iload_n 1, 1)] (by decide +kernel) (pc' := 29) (lo' := [(0, (2, 35)), (1, (0, k))]) (st' := [(0, k), (0, mem 35 88), (2, 97)]) rfl ?_
      refine jiast hF (by decide +kernel) (by decide) (by exact hS.k97) (by omega) (by have := hS.l97; omega) ?_
      refine jblk hF [(.aload_n 0, 1), (.dup, 1)] (by decide +kernel) (pc' := 32) (lo' := [(0, (2, 35)), (1, (0, k))]) (st' := [(2, 35), (2, 35)]) rfl ?_
      refine jget hF 13 88 0 88 rfl (by decide) (by decide) rfl wd_1551 (by decide +kernel) (by exact hS.k35) ?_
      rw [show (set2 mem 97 (mem 35 88) k) 35 88 = mem 35 88 from (s2_a (by decide))]
      refine jblk hF [(.iconst 1, 1), (.iadd, 1)] (by decide +kernel) (pc' := 37) (lo' := [(0, (2, 35)), (1, (0, k))]) (st' := [(0, (mem 35 88) + 1), (2, 35)]) rfl ?_
      refine jput hF 13 88 0 88 rfl (by decide) (by decide) rfl wd_1551 (by decide +kernel) rfl (Or.inl rfl) (by exact hS.k35) (fun h => by cases h) ?_
      refine jblk hF [(.aload_n 0, 1)] (by decide +kernel) (pc' := 41) (lo' := [(0, (2, 35)), (1, (0, k))]) (st' := [(2, 35)]) rfl ?_
      refine jget hF 13 88 0 88 rfl (by decide) (by decide) rfl wd_1551 (by decide +kernel) (by exact hS.k35) ?_
      rw [show (set2 (set2 mem 97 (mem 35 88) k) 35 88 ((mem 35 88) + 1)) 35 88 = (mem 35 88) + 1 from s2_s]
      refine jblk hF [(.iconst 1, 1), (.isub, 1)] (by decide +kernel) (pc' := 46) (lo' := [(0, (2, 35)), (1, (0, k))]) (st' := [(0, ((mem 35 88) + 1) - 1)]) rfl ?_
      refine jiret hF hr (by decide +kernel) ?_
      exact lMR ⟨(SR.s (SR.s hR (Or.inl (by decide))) (Or.inr (by decide))), by first | exact ⟨fun h => absurd h (by omega), fun _ => ⟨rfl, rfl⟩⟩ | exact ⟨fun _ => ⟨by omega, rfl⟩, fun h => absurd (by omega) h⟩⟩
    · refine jblk hF [(.iconst (-1), 1)] (by decide +kernel) (pc' := 19) (lo' := [(0, (2, 35)), (1, (0, k))]) (st' := [(0, (-1))]) rfl ?_
      refine jiret hF hr (by decide +kernel) ?_
      exact lMR ⟨hR, by first | exact ⟨fun h => absurd h (by omega), fun _ => ⟨rfl, rfl⟩⟩ | exact ⟨fun _ => ⟨by omega, rfl⟩, fun h => absurd (by omega) h⟩⟩
  · refine jif_eq hF (off := 12) 18 (by decide +kernel) (by decide) (by decide) (fun _ => ?_) (fun h => absurd h (by decide))
    refine jblk hF [(.iconst (-1), 1)] (by decide +kernel) (pc' := 19) (lo' := [(0, (2, 35)), (1, (0, k))]) (st' := [(0, (-1))]) rfl ?_
    refine jiret hF hr (by decide +kernel) ?_
    exact lMR ⟨hR, by first | exact ⟨fun h => absurd h (by omega), fun _ => ⟨rfl, rfl⟩⟩ | exact ⟨fun _ => ⟨by omega, rfl⟩, fun h => absurd (by omega) h⟩⟩
set_option maxHeartbeats 4000000 in
set_option maxRecDepth 100000 in
theorem c_X12_isSheet {l : Launch} {g : GP} (hG : GH g) {kd : Int → Nat} {ln : Int → Int} {mem : Int → Int → Int} {sz : Nat} (hS : SK kd ln) (hR : SR mem) (s : Int) (h_s : InI s) (hSH : SHS mem) : MT l g yX12_isSheet cX12_isSheet 2 (some .boolean) 1 0 0 [(2, 35), (0, s)] kd ln mem sz (pB (isSh mem s) kd ln mem sz) := by
  refine MT_of hG (by decide +kernel) (Nat.le_of_ble_eq_true rfl) (fun z hF hr hn => ?_)
  refine jblk hF [(.iload_n 1, 1), (.iconst 0, 1), (.aload_n 0, 1)] (by decide +kernel) (pc' := 3) (lo' := [(0, (2, 35)), (1, (0, s))]) (st' := [(2, 35), (0, 0), (0, s)]) rfl ?_
  refine jget hF 13 88 0 88 rfl (by decide) (by decide) rfl wd_1551 (by decide +kernel) (by exact hS.k35) ?_
  refine jblk hF [(.iconst 1, 1), (.isub, 1)] (by decide +kernel) (pc' := 8) (lo' := [(0, (2, 35)), (1, (0, s))]) (st' := [(0, (mem 35 88) - 1), (0, 0), (0, s)]) rfl ?_
  refine jcallS hF (c_X12_in hG s 0 ((mem 35 88) - 1) (by omega) (by decide) (by omega)) MW_X12_in wd_1743 wd_1744 (by decide +kernel) [] rfl rfl (by decide) (Nat.le_of_ble_eq_true rfl) (by decide) (kB (fun h_1 => ?_) (fun h_1 => ?_))
  · refine jzret hF hr (by omega) (by decide +kernel) ?_
    exact lB1 (by omega)
  · refine jzret hF hr (by omega) (by decide +kernel) ?_
    exact lB0 (by omega)
set_option maxHeartbeats 4000000 in
set_option maxRecDepth 100000 in
theorem c_X12_put {l : Launch} {g : GP} (hG : GH g) {kd : Int → Nat} {ln : Int → Int} {mem : Int → Int → Int} {sz : Nat} (hS : SK kd ln) (hR : SR mem) (s j w : Int) (h_s : InI s) (h_j : InI j) (h_w : InI w) (hSH : SHS mem) : MT l g yX12_put cX12_put 4 (some .boolean) 2 0 0 [(2, 35), (0, s), (0, j), (0, w)] kd ln mem sz (pMB (fun c mem' => SR mem' ∧ ((c ↔ putC mem s j w) ∧ mem' = (if putC mem s j w then (set2 mem 99 (40 * s + j) (shV (mem 97 s) w)) else mem))) kd ln sz) := by
  refine MT_of hG (by decide +kernel) (Nat.le_of_ble_eq_true rfl) (fun z hF hr hn => ?_)
  refine jblk hF [(.aload_n 0, 1), (.iload_n 1, 1)] (by decide +kernel) (pc' := 2) (lo' := [(0, (2, 35)), (1, (0, s)), (2, (0, j)), (3, (0, w))]) (st' := [(0, s), (2, 35)]) rfl ?_
  refine jcallV hF (c_X12_isSheet hG hS hR s (by omega) (by exact hSH)) MW_X12_isSheet 13 (by decide) (by exact hS.k35) wd_2222 wd_2224 wd_p101 (by decide +kernel) [] rfl rfl (by decide) (Nat.le_of_ble_eq_true rfl) (by decide) (kB (fun h_1 => ?_) (fun h_1 => ?_))
  · refine jif_eq hF (off := 35) 40 (by decide +kernel) (by decide) (by decide) (fun h => absurd h (by decide)) (fun _ => ?_)
    have hs := hSH.2.2 s (by omega) (by omega)
    have hf1 : InI (fi2b w) := I_in _
    have hf2 : InI (fi2s w) := I_in _
    refine jblk hF [(.aload_n 0, 1)] (by decide +kernel) (pc' := 9) (lo' := [(0, (2, 35)), (1, (0, s)), (2, (0, j)), (3, (0, w))]) (st' := [(2, 35)]) rfl ?_
    refine jget hF 13 86 2 86 rfl (by decide) (by decide) rfl wd_1549 (by decide +kernel) (by exact hS.k35) ?_
    rw [SR.r86 hR]
    refine jblk hF [(.iload_n 1, 1)] (by decide +kernel) (pc' := 13) (lo' := [(0, (2, 35)), (1, (0, s)), (2, (0, j)), (3, (0, w))]) (st' := [(0, s), (2, 98)]) rfl ?_
    refine jzald hF (by decide +kernel) (by exact hS.k98) (by omega) (by have := hS.l98; omega) ?_
    refine jif_ne hF (off := 26) 40 (by decide +kernel) (by decide) (by omega) (fun h_3 => ?_) (fun h_3 => ?_)
    · refine jblk hF [(.iconst 0, 1)] (by decide +kernel) (pc' := 41) (lo' := [(0, (2, 35)), (1, (0, s)), (2, (0, j)), (3, (0, w))]) (st' := [(0, 0)]) rfl ?_
      refine jzret hF hr (by omega) (by decide +kernel) ?_
      exact lMB0 ⟨hR, by first | exact ⟨⟨fun h => h.elim, fun h => absurd h (by omega)⟩, (if_neg (by omega)).symm⟩ | exact ⟨⟨fun _ => by omega, fun _ => trivial⟩, by rw [if_pos (by omega)]; unfold shV; (repeat' split) <;> first | rfl | (exfalso; omega)⟩⟩
    · refine jblk hF [(.iload_n 2, 1), (.iconst 0, 1), (.bipush 39, 2)] (by decide +kernel) (pc' := 21) (lo' := [(0, (2, 35)), (1, (0, s)), (2, (0, j)), (3, (0, w))]) (st' := [(0, 39), (0, 0), (0, j)]) rfl ?_
      refine jcallS hF (c_X12_in hG j 0 39 (by omega) (by decide) (by decide)) MW_X12_in wd_1743 wd_1744 (by decide +kernel) [] rfl rfl (by decide) (Nat.le_of_ble_eq_true rfl) (by decide) (kB (fun h_4 => ?_) (fun h_4 => ?_))
      · refine jif_eq hF (off := 16) 40 (by decide +kernel) (by decide) (by decide) (fun h => absurd h (by decide)) (fun _ => ?_)
        refine jblk hF [(.iload_n 3, 1)] (by decide +kernel) (pc' := 28) (lo' := [(0, (2, 35)), (1, (0, s)), (2, (0, j)), (3, (0, w))]) (st' := [(0, w)]) rfl ?_
        refine jldcw hF (-1000000000) (cst_i wd_2226 (by decide)) (by decide +kernel) ?_
        refine jldcw hF 1000000000 (cst_i wd_2227 (by decide)) (by decide +kernel) ?_
        refine jcallS hF (c_X12_in hG w (-1000000000) 1000000000 (by omega) (by decide) (by decide)) MW_X12_in wd_1743 wd_1744 (by decide +kernel) [] rfl rfl (by decide) (Nat.le_of_ble_eq_true rfl) (by decide) (kB (fun h_6 => ?_) (fun h_6 => ?_))
        · refine jif_ne hF (off := 5) 42 (by decide +kernel) (by decide) (by decide) (fun _ => ?_) (fun h => absurd h (by decide))
          refine jblk hF [(.aload_n 0, 1)] (by decide +kernel) (pc' := 43) (lo' := [(0, (2, 35)), (1, (0, s)), (2, (0, j)), (3, (0, w))]) (st' := [(2, 35)]) rfl ?_
          refine jget hF 13 87 2 87 rfl (by decide) (by decide) rfl wd_1550 (by decide +kernel) (by exact hS.k35) ?_
          rw [SR.r87 hR]
          refine jblk hF [(.bipush 40, 2), (.iload_n 1, 1), (.imul, 1), (.iload_n 2, 1), (.iadd, 1), (.aload_n 0, 1)] (by decide +kernel) (pc' := 53) (lo' := [(0, (2, 35)), (1, (0, s)), (2, (0, j)), (3, (0, w))]) (st' := [(2, 35), (0, (40 * s) + j), (2, 99)]) rfl ?_
          refine jget hF 13 85 2 85 rfl (by decide) (by decide) rfl wd_1548 (by decide +kernel) (by exact hS.k35) ?_
          rw [SR.r85 hR]
          refine jblk hF [(.iload_n 1, 1)] (by decide +kernel) (pc' := 57) (lo' := [(0, (2, 35)), (1, (0, s)), (2, (0, j)), (3, (0, w))]) (st' := [(0, s), (2, 97), (0, (40 * s) + j), (2, 99)]) rfl ?_
          refine jiald hF (by decide +kernel) (by exact hS.k97) (by omega) (by have := hS.l97; omega) ?_
          refine jif_ne hF (off := 9) 67 (by decide +kernel) (by decide) (by omega) (fun h_8 => ?_) (fun h_8 => ?_)
          · refine jblk hF [(.aload_n 0, 1)] (by decide +kernel) (pc' := 68) (lo' := [(0, (2, 35)), (1, (0, s)), (2, (0, j)), (3, (0, w))]) (st' := [(2, 35), (0, (40 * s) + j), (2, 99)]) rfl ?_
            refine jget hF 13 85 2 85 rfl (by decide) (by decide) rfl wd_1548 (by decide +kernel) (by exact hS.k35) ?_
            rw [SR.r85 hR]
            refine jblk hF [(.iload_n 1, 1)] (by decide +kernel) (pc' := 72) (lo' := [(0, (2, 35)), (1, (0, s)), (2, (0, j)), (3, (0, w))]) (st' := [(0, s), (2, 97), (0, (40 * s) + j), (2, 99)]) rfl ?_
            refine jiald hF (by decide +kernel) (by exact hS.k97) (by omega) (by have := hS.l97; omega) ?_
            refine jblk hF [(.iconst 1, 1)] (by decide +kernel) (pc' := 74) (lo' := [(0, (2, 35)), (1, (0, s)), (2, (0, j)), (3, (0, w))]) (st' := [(0, 1), (0, mem 97 s), (0, (40 * s) + j), (2, 99)]) rfl ?_
            refine jicmp_ne hF (off := 9) 83 (by decide +kernel) (by decide) (by omega) (by decide) (fun h_9 => ?_) (fun h_9 => ?_)
            · refine jblk hF [(.iload_n 3, 1)] (by decide +kernel) (pc' := 84) (lo' := [(0, (2, 35)), (1, (0, s)), (2, (0, j)), (3, (0, w))]) (st' := [(0, w), (0, (40 * s) + j), (2, 99)]) rfl ?_
              refine ji2l hF (by decide +kernel) (by omega) ?_
              refine jlast hF (by decide +kernel) (by decide) (by exact hS.k99) (by omega) (by have := hS.l99; omega) ?_
              refine jblk hF [(.iconst 1, 1)] (by decide +kernel) (pc' := 87) (lo' := [(0, (2, 35)), (1, (0, s)), (2, (0, j)), (3, (0, w))]) (st' := [(0, 1)]) rfl ?_
              refine jzret hF hr (by omega) (by decide +kernel) ?_
              exact lMB1 ⟨(SR.s hR (Or.inl (by decide))), by first | exact ⟨⟨fun h => h.elim, fun h => absurd h (by omega)⟩, (if_neg (by omega)).symm⟩ | exact ⟨⟨fun _ => by omega, fun _ => trivial⟩, by rw [if_pos (by omega)]; unfold shV; (repeat' split) <;> first | rfl | (exfalso; omega)⟩⟩
            · refine jblk hF [(.iload_n 3, 1), (.i2s, 1)] (by decide +kernel) (pc' := 79) (lo' := [(0, (2, 35)), (1, (0, s)), (2, (0, j)), (3, (0, w))]) (st' := [(0, fi2s w), (0, (40 * s) + j), (2, 99)]) rfl ?_
              refine ji2l hF (by decide +kernel) (by omega) ?_
              refine jgoto hF (off := 5) 85 (by decide +kernel) (by decide) ?_
              refine jlast hF (by decide +kernel) (by decide) (by exact hS.k99) (by omega) (by have := hS.l99; omega) ?_
              refine jblk hF [(.iconst 1, 1)] (by decide +kernel) (pc' := 87) (lo' := [(0, (2, 35)), (1, (0, s)), (2, (0, j)), (3, (0, w))]) (st' := [(0, 1)]) rfl ?_
              refine jzret hF hr (by omega) (by decide +kernel) ?_
              exact lMB1 ⟨(SR.s hR (Or.inl (by decide))), by first | exact ⟨⟨fun h => h.elim, fun h => absurd h (by omega)⟩, (if_neg (by omega)).symm⟩ | exact ⟨⟨fun _ => by omega, fun _ => trivial⟩, by rw [if_pos (by omega)]; unfold shV; (repeat' split) <;> first | rfl | (exfalso; omega)⟩⟩
          · refine jblk hF [(.iload_n 3, 1), (.i2b, 1)] (by decide +kernel) (pc' := 63) (lo' := [(0, (2, 35)), (1, (0, s)), (2, (0, j)), (3, (0, w))]) (st' := [(0, fi2b w), (0, (40 * s) + j), (2, 99)]) rfl ?_
            refine ji2l hF (by decide +kernel) (by omega) ?_
            refine jgoto hF (off := 21) 85 (by decide +kernel) (by decide) ?_
            refine jlast hF (by decide +kernel) (by decide) (by exact hS.k99) (by omega) (by have := hS.l99; omega) ?_
            refine jblk hF [(.iconst 1, 1)] (by decide +kernel) (pc' := 87) (lo' := [(0, (2, 35)), (1, (0, s)), (2, (0, j)), (3, (0, w))]) (st' := [(0, 1)]) rfl ?_
            refine jzret hF hr (by omega) (by decide +kernel) ?_
            exact lMB1 ⟨(SR.s hR (Or.inl (by decide))), by first | exact ⟨⟨fun h => h.elim, fun h => absurd h (by omega)⟩, (if_neg (by omega)).symm⟩ | exact ⟨⟨fun _ => by omega, fun _ => trivial⟩, by rw [if_pos (by omega)]; unfold shV; (repeat' split) <;> first | rfl | (exfalso; omega)⟩⟩
        · refine jif_ne hF (off := 5) 42 (by decide +kernel) (by decide) (by decide) (fun h => absurd h (by decide)) (fun _ => ?_)
          refine jblk hF [(.iconst 0, 1)] (by decide +kernel) (pc' := 41) (lo' := [(0, (2, 35)), (1, (0, s)), (2, (0, j)), (3, (0, w))]) (st' := [(0, 0)]) rfl ?_
          refine jzret hF hr (by omega) (by decide +kernel) ?_
          exact lMB0 ⟨hR, by first | exact ⟨⟨fun h => h.elim, fun h => absurd h (by omega)⟩, (if_neg (by omega)).symm⟩ | exact ⟨⟨fun _ => by omega, fun _ => trivial⟩, by rw [if_pos (by omega)]; unfold shV; (repeat' split) <;> first | rfl | (exfalso; omega)⟩⟩
      · refine jif_eq hF (off := 16) 40 (by decide +kernel) (by decide) (by decide) (fun _ => ?_) (fun h => absurd h (by decide))
        refine jblk hF [(.iconst 0, 1)] (by decide +kernel) (pc' := 41) (lo' := [(0, (2, 35)), (1, (0, s)), (2, (0, j)), (3, (0, w))]) (st' := [(0, 0)]) rfl ?_
        refine jzret hF hr (by omega) (by decide +kernel) ?_
        exact lMB0 ⟨hR, by first | exact ⟨⟨fun h => h.elim, fun h => absurd h (by omega)⟩, (if_neg (by omega)).symm⟩ | exact ⟨⟨fun _ => by omega, fun _ => trivial⟩, by rw [if_pos (by omega)]; unfold shV; (repeat' split) <;> first | rfl | (exfalso; omega)⟩⟩
  · refine jif_eq hF (off := 35) 40 (by decide +kernel) (by decide) (by decide) (fun _ => ?_) (fun h => absurd h (by decide))
    refine jblk hF [(.iconst 0, 1)] (by decide +kernel) (pc' := 41) (lo' := [(0, (2, 35)), (1, (0, s)), (2, (0, j)), (3, (0, w))]) (st' := [(0, 0)]) rfl ?_
    refine jzret hF hr (by omega) (by decide +kernel) ?_
    exact lMB0 ⟨hR, by first | exact ⟨⟨fun h => h.elim, fun h => absurd h (by omega)⟩, (if_neg (by omega)).symm⟩ | exact ⟨⟨fun _ => by omega, fun _ => trivial⟩, by rw [if_pos (by omega)]; unfold shV; (repeat' split) <;> first | rfl | (exfalso; omega)⟩⟩
set_option maxHeartbeats 4000000 in
set_option maxRecDepth 100000 in
theorem c_X12_lose {l : Launch} {g : GP} (hG : GH g) {kd : Int → Nat} {ln : Int → Int} {mem : Int → Int → Int} {sz : Nat} (hS : SK kd ln) (hR : SR mem) (s : Int) (h_s : InI s) (hSH : SHS mem) : MT l g yX12_lose cX12_lose 2 (some .boolean) 2 0 0 [(2, 35), (0, s)] kd ln mem sz (pMB (fun c mem' => SR mem' ∧ ((c ↔ (isSh mem s ∧ mem 98 s = 0)) ∧ mem' = (if (isSh mem s ∧ mem 98 s = 0) then set2 mem 98 s 1 else mem))) kd ln sz) := by
  refine MT_of hG (by decide +kernel) (Nat.le_of_ble_eq_true rfl) (fun z hF hr hn => ?_)
  refine jblk hF [(.aload_n 0, 1), (.iload_n 1, 1)] (by decide +kernel) (pc' := 2) (lo' := [(0, (2, 35)), (1, (0, s))]) (st' := [(0, s), (2, 35)]) rfl ?_
  refine jcallV hF (c_X12_isSheet hG hS hR s (by omega) (by exact hSH)) MW_X12_isSheet 13 (by decide) (by exact hS.k35) wd_2222 wd_2224 wd_p101 (by decide +kernel) [] rfl rfl (by decide) (Nat.le_of_ble_eq_true rfl) (by decide) (kB (fun h_1 => ?_) (fun h_1 => ?_))
  · refine jif_eq hF (off := 12) 17 (by decide +kernel) (by decide) (by decide) (fun h => absurd h (by decide)) (fun _ => ?_)
    have hs := hSH.2.2 s (by omega) (by omega)
    refine jblk hF [(.aload_n 0, 1)] (by decide +kernel) (pc' := 9) (lo' := [(0, (2, 35)), (1, (0, s))]) (st' := [(2, 35)]) rfl ?_
    refine jget hF 13 86 2 86 rfl (by decide) (by decide) rfl wd_1549 (by decide +kernel) (by exact hS.k35) ?_
    rw [SR.r86 hR]
    refine jblk hF [(.iload_n 1, 1)] (by decide +kernel) (pc' := 13) (lo' := [(0, (2, 35)), (1, (0, s))]) (st' := [(0, s), (2, 98)]) rfl ?_
    refine jzald hF (by decide +kernel) (by exact hS.k98) (by omega) (by have := hS.l98; omega) ?_
    refine jif_eq hF (off := 5) 19 (by decide +kernel) (by decide) (by omega) (fun h_3 => ?_) (fun h_3 => ?_)
    · refine jblk hF [(.aload_n 0, 1)] (by decide +kernel) (pc' := 20) (lo' := [(0, (2, 35)), (1, (0, s))]) (st' := [(2, 35)]) rfl ?_
      refine jget hF 13 86 2 86 rfl (by decide) (by decide) rfl wd_1549 (by decide +kernel) (by exact hS.k35) ?_
      rw [SR.r86 hR]
      refine jblk hF [(.iload_n 1, 1), (.iconst 1, 1)] (by decide +kernel) (pc' := 25) (lo' := [(0, (2, 35)), (1, (0, s))]) (st' := [(0, 1), (0, s), (2, 98)]) rfl ?_
      refine jzast hF (by decide +kernel) (by decide) (by exact hS.k98) (by omega) (by have := hS.l98; omega) (by omega) ?_
      refine jblk hF [(.iconst 1, 1)] (by decide +kernel) (pc' := 27) (lo' := [(0, (2, 35)), (1, (0, s))]) (st' := [(0, 1)]) rfl ?_
      refine jzret hF hr (by omega) (by decide +kernel) ?_
      exact lMB1 ⟨(SR.s hR (Or.inl (by decide))), by first | exact ⟨⟨fun h => h.elim, fun h => absurd h (by omega)⟩, (if_neg (by omega)).symm⟩ | exact ⟨⟨fun _ => by omega, fun _ => trivial⟩, (if_pos (by omega)).symm⟩⟩
    · refine jblk hF [(.iconst 0, 1)] (by decide +kernel) (pc' := 18) (lo' := [(0, (2, 35)), (1, (0, s))]) (st' := [(0, 0)]) rfl ?_
      refine jzret hF hr (by omega) (by decide +kernel) ?_
      exact lMB0 ⟨hR, by first | exact ⟨⟨fun h => h.elim, fun h => absurd h (by omega)⟩, (if_neg (by omega)).symm⟩ | exact ⟨⟨fun _ => by omega, fun _ => trivial⟩, (if_pos (by omega)).symm⟩⟩
  · refine jif_eq hF (off := 12) 17 (by decide +kernel) (by decide) (by decide) (fun _ => ?_) (fun h => absurd h (by decide))
    refine jblk hF [(.iconst 0, 1)] (by decide +kernel) (pc' := 18) (lo' := [(0, (2, 35)), (1, (0, s))]) (st' := [(0, 0)]) rfl ?_
    refine jzret hF hr (by omega) (by decide +kernel) ?_
    exact lMB0 ⟨hR, by first | exact ⟨⟨fun h => h.elim, fun h => absurd h (by omega)⟩, (if_neg (by omega)).symm⟩ | exact ⟨⟨fun _ => by omega, fun _ => trivial⟩, (if_pos (by omega)).symm⟩⟩
set_option maxHeartbeats 4000000 in
set_option maxRecDepth 100000 in
theorem c_X12_hours {l : Launch} {g : GP} (hG : GH g) {kd : Int → Nat} {ln : Int → Int} {mem : Int → Int → Int} {sz : Nat} (hS : SK kd ln) (hR : SR mem) (v : Int) (h_v : InI v) : MT l g yX12_hours cX12_hours 2 (some .boolean) 1 0 0 [(2, 35), (0, v)] kd ln mem sz (pMB (fun c mem' => SR mem' ∧ ((c ↔ (1 ≤ v ∧ v ≤ 100)) ∧ mem' = (if (1 ≤ v ∧ v ≤ 100) then set2 mem 35 89 v else mem))) kd ln sz) := by
  refine MT_of hG (by decide +kernel) (Nat.le_of_ble_eq_true rfl) (fun z hF hr hn => ?_)
  refine jblk hF [(.iload_n 1, 1), (.iconst 1, 1), (.bipush 100, 2)] (by decide +kernel) (pc' := 4) (lo' := [(0, (2, 35)), (1, (0, v))]) (st' := [(0, 100), (0, 1), (0, v)]) rfl ?_
  refine jcallS hF (c_X12_in hG v 1 100 (by omega) (by decide) (by decide)) MW_X12_in wd_1743 wd_1744 (by decide +kernel) [] rfl rfl (by decide) (Nat.le_of_ble_eq_true rfl) (by decide) (kB (fun h_1 => ?_) (fun h_1 => ?_))
  · refine jif_ne hF (off := 5) 12 (by decide +kernel) (by decide) (by decide) (fun _ => ?_) (fun h => absurd h (by decide))
    refine jblk hF [(.aload_n 0, 1), (.iload_n 1, 1)] (by decide +kernel) (pc' := 14) (lo' := [(0, (2, 35)), (1, (0, v))]) (st' := [(0, v), (2, 35)]) rfl ?_
    refine jput hF 13 89 0 89 rfl (by decide) (by decide) rfl wd_1552 (by decide +kernel) rfl (Or.inl rfl) (by exact hS.k35) (fun h => by cases h) ?_
    refine jblk hF [(.iconst 1, 1)] (by decide +kernel) (pc' := 18) (lo' := [(0, (2, 35)), (1, (0, v))]) (st' := [(0, 1)]) rfl ?_
    refine jzret hF hr (by omega) (by decide +kernel) ?_
    exact lMB1 ⟨(SR.s hR (Or.inr (by decide))), by first | exact ⟨⟨fun h => h.elim, fun h => absurd h (by omega)⟩, (if_neg (by omega)).symm⟩ | exact ⟨⟨fun _ => by omega, fun _ => trivial⟩, (if_pos (by omega)).symm⟩⟩
  · refine jif_ne hF (off := 5) 12 (by decide +kernel) (by decide) (by decide) (fun h => absurd h (by decide)) (fun _ => ?_)
    refine jblk hF [(.iconst 0, 1)] (by decide +kernel) (pc' := 11) (lo' := [(0, (2, 35)), (1, (0, v))]) (st' := [(0, 0)]) rfl ?_
    refine jzret hF hr (by omega) (by decide +kernel) ?_
    exact lMB0 ⟨hR, by first | exact ⟨⟨fun h => h.elim, fun h => absurd h (by omega)⟩, (if_neg (by omega)).symm⟩ | exact ⟨⟨fun _ => by omega, fun _ => trivial⟩, (if_pos (by omega)).symm⟩⟩
set_option maxHeartbeats 4000000 in
set_option maxRecDepth 100000 in
theorem c_X12_take {l : Launch} {g : GP} (hG : GH g) {kd : Int → Nat} {ln : Int → Int} {mem : Int → Int → Int} {sz : Nat} (hS : SK kd ln) (hR : SR mem) (p n s j : Int) (h_p : InI p) (h_n : InI n) (h_s : InI s) (h_j : InI j) (hPS : PGS mem) (hSL : SLS mem) (h0 : 0 ≤ mem 35 0 ∧ mem 35 0 ≤ 1000) (hSN : -1 ≤ mem 35 2 ∧ mem 35 2 ≤ mem 35 0) (hSH : SHS mem) : MT l g yX12_take cX12_take 7 (some .int) 6 0 0 [(2, 35), (0, p), (0, n), (0, s), (0, j)] kd ln mem sz (pMR 0 (fun v mem' => SR mem' ∧ ((¬ takA mem p n s → v = -1 ∧ mem' = mem) ∧ (takA mem p n s → ¬ takB mem s j → v = -2 ∧ mem' = mem) ∧ (takA mem p n s → takB mem s j → (takV mem p n s j = 0 → v = -3 ∧ FR mem mem') ∧ (takV mem p n s j ≠ 0 → (takV mem p n s j < -1000000 ∨ takV mem p n s j > 1000000 ∨ mem 35 45 = 60) → v = -1 ∧ FR mem mem') ∧ (takV mem p n s j ≠ 0 → ¬ (takV mem p n s j < -1000000 ∨ takV mem p n s j > 1000000 ∨ mem 35 45 = 60) → v = mem 35 45 ∧ ∃ m : Int → Int → Int, FR mem m ∧ mem' = slipM m p n 9 (takV mem p n s j))))) kd ln sz) := by
  refine MT_of hG (by decide +kernel) (Nat.le_of_ble_eq_true rfl) (fun z hF hr hn => ?_)
  refine jblk hF [(.aload_n 0, 1), (.iload_n 1, 1), (.iload_n 2, 1)] (by decide +kernel) (pc' := 3) (lo' := [(0, (2, 35)), (1, (0, p)), (2, (0, n)), (3, (0, s)), (4, (0, j))]) (st' := [(0, n), (0, p), (2, 35)]) rfl ?_
  refine jcallV hF (c_X12_isLine hG hS hR p n (by omega) (by omega) (by exact hPS)) MW_X12_isLine 13 (by decide) (by exact hS.k35) wd_1954 wd_1956 wd_p76 (by decide +kernel) [] rfl rfl (by decide) (Nat.le_of_ble_eq_true rfl) (by decide) (kB (fun h_1 => ?_) (fun h_1 => ?_))
  · refine jif_eq hF (off := 20) 26 (by decide +kernel) (by decide) (by decide) (fun h => absurd h (by decide)) (fun _ => ?_)
    have hp := hPS.2.2 p (by omega) (by omega)
    refine jblk hF [(.aload_n 0, 1), (.iload_n 1, 1), (.iload_n 2, 1)] (by decide +kernel) (pc' := 12) (lo' := [(0, (2, 35)), (1, (0, p)), (2, (0, n)), (3, (0, s)), (4, (0, j))]) (st' := [(0, n), (0, p), (2, 35)]) rfl ?_
    refine jcallV hF (c_X12_isMade hG hS hR p n (by first | omega | exact hE.fPG hp | exact (EQ36.f _ _).fPG hp) (by omega)) MW_X12_isMade 13 (by decide) (by exact hS.k35) wd_1942 wd_1944 wd_p74 (by decide +kernel) [] rfl rfl (by decide) (Nat.le_of_ble_eq_true rfl) (by decide) (kB (fun h_3 => ?_) (fun h_3 => ?_))
    · refine jif_eq hF (off := 11) 26 (by decide +kernel) (by decide) (by decide) (fun h => absurd h (by decide)) (fun _ => ?_)
      refine jblk hF [(.aload_n 0, 1), (.iload_n 3, 1)] (by decide +kernel) (pc' := 20) (lo' := [(0, (2, 35)), (1, (0, p)), (2, (0, n)), (3, (0, s)), (4, (0, j))]) (st' := [(0, s), (2, 35)]) rfl ?_
      refine jcallV hF (c_X12_isSheet hG hS hR s (by omega) (by exact hSH)) MW_X12_isSheet 13 (by decide) (by exact hS.k35) wd_2222 wd_2224 wd_p101 (by decide +kernel) [] rfl rfl (by decide) (Nat.le_of_ble_eq_true rfl) (by decide) (kB (fun h_5 => ?_) (fun h_5 => ?_))
      · refine jif_ne hF (off := 5) 28 (by decide +kernel) (by decide) (by decide) (fun _ => ?_) (fun h => absurd h (by decide))
        have hs := hSH.2.2 s (by omega) (by omega)
        refine jblk hF [(.aload_n 0, 1)] (by decide +kernel) (pc' := 29) (lo' := [(0, (2, 35)), (1, (0, p)), (2, (0, n)), (3, (0, s)), (4, (0, j))]) (st' := [(2, 35)]) rfl ?_
        refine jget hF 13 86 2 86 rfl (by decide) (by decide) rfl wd_1549 (by decide +kernel) (by exact hS.k35) ?_
        rw [SR.r86 hR]
        refine jblk hF [(.iload_n 3, 1)] (by decide +kernel) (pc' := 33) (lo' := [(0, (2, 35)), (1, (0, p)), (2, (0, n)), (3, (0, s)), (4, (0, j))]) (st' := [(0, s), (2, 98)]) rfl ?_
        refine jzald hF (by decide +kernel) (by exact hS.k98) (by omega) (by have := hS.l98; omega) ?_
        refine jif_ne hF (off := 14) 48 (by decide +kernel) (by decide) (by omega) (fun h_7 => ?_) (fun h_7 => ?_)
        · refine jblk hF [(.bipush (-2), 2)] (by decide +kernel) (pc' := 50) (lo' := [(0, (2, 35)), (1, (0, p)), (2, (0, n)), (3, (0, s)), (4, (0, j))]) (st' := [(0, (-2))]) rfl ?_
          refine jiret hF hr (by decide +kernel) ?_
          exact lMR ⟨hR, by exact ⟨fun h => absurd (by omega) h, fun _ _ => ⟨rfl, rfl⟩, fun _ h => absurd h (by omega)⟩⟩
        · refine jblk hF [(.iload 4, 2), (.iconst 0, 1), (.bipush 39, 2)] (by decide +kernel) (pc' := 42) (lo' := [(0, (2, 35)), (1, (0, p)), (2, (0, n)), (3, (0, s)), (4, (0, j))]) (st' := [(0, 39), (0, 0), (0, j)]) rfl ?_
          refine jcallS hF (c_X12_in hG j 0 39 (by omega) (by decide) (by decide)) MW_X12_in wd_1743 wd_1744 (by decide +kernel) [] rfl rfl (by decide) (Nat.le_of_ble_eq_true rfl) (by decide) (kB (fun h_8 => ?_) (fun h_8 => ?_))
          · refine jif_ne hF (off := 6) 51 (by decide +kernel) (by decide) (by decide) (fun _ => ?_) (fun h => absurd h (by decide))
            refine jblk hF [(.aload_n 0, 1), (.iload_n 1, 1), (.aload_n 0, 1)] (by decide +kernel) (pc' := 54) (lo' := [(0, (2, 35)), (1, (0, p)), (2, (0, n)), (3, (0, s)), (4, (0, j))]) (st' := [(2, 35), (0, p), (2, 35)]) rfl ?_
            refine jcallV hF (c_X12_known hG hS hR (by omega)) MW_X12_known 13 (by decide) (by exact hS.k35) wd_2157 wd_1751 wd_1752 (by decide +kernel) [(0, p), (2, 35)] rfl rfl (by decide) (Nat.le_of_ble_eq_true rfl) (by decide) (kV ?_)
            refine jcallV hF (c_X12_makeAs hG hS hR p (if mem 35 2 = -1 then mem 35 0 else mem 35 2) (by first | exact hE1.fPG hp | (first | omega | exact hE.fPG hp | exact (EQ36.f _ _).fPG hp)) (by first | exact hE1.fSLS e45 e33 e00 hSL | (first | exact hSL | exact (EQ36.f _ _).fSLS (s2_k (by decide)) (s2_k (by decide)) (s2_k (by decide)) hSL)) (by first | (rw [e33]; omega) | (first | omega | (rw [show (set2 mem 35 1 0) 35 33 = mem 35 33 from s2_k (by decide)]; omega) | (rw [show (set2 mem 35 1 0) 35 0 = mem 35 0 from s2_k (by decide)]; omega))) (by omega) (by first | (rw [e00]; omega) | (first | omega | (rw [show (set2 mem 35 1 0) 35 33 = mem 35 33 from s2_k (by decide)]; omega) | (rw [show (set2 mem 35 1 0) 35 0 = mem 35 0 from s2_k (by decide)]; omega)))) MW_X12_makeAs 13 (by decide) (by exact hS.k35) wd_2008 wd_2010 wd_p85 (by decide +kernel) [] rfl rfl (by decide) (Nat.le_of_ble_eq_true rfl) (by decide) (kMV (fun m_10 h_11 => ?_))
            obtain ⟨hR_m_10, h_11⟩ := h_11
            have hK := h_11
            have hE : EQ36 mem m_10 := hK.1.e
            have e45 : m_10 35 45 = mem 35 45 := hK.1 35 45 (by decide) (by decide) (by decide) (by decide)
            have e33 : m_10 35 33 = mem 35 33 := hK.1 35 33 (by decide) (by decide) (by decide) (by decide)
            have e00 : m_10 35 0 = mem 35 0 := hK.1 35 0 (by decide) (by decide) (by decide) (by decide)
            have e47 := congrFun (hE.at 47 (by decide)) p
            have e49 := congrFun (hE.at 49 (by decide)) p
            have e52 := congrFun (hE.at 52 (by decide)) p
            have em : n % m_10 52 p = n % mem 52 p := by rw [e52]
            have hW : takV mem p n s j = wL (m_10 99 (40 * s + j) - m_10 61 n) := by unfold takV; rw [hK.1 99 (40 * s + j) (by decide) (by decide) (by decide) (by decide), hK.2.1 n (by omega) (by omega)]; rfl
            have hw0 : wL 0 = 0 := by decide
            have hw1 : wL (-1000000) = -1000000 := by decide
            have hw2 : wL 1000000 = 1000000 := by decide
            refine jblk hF [(.aload_n 0, 1)] (by decide +kernel) (pc' := 61) (lo' := [(0, (2, 35)), (1, (0, p)), (2, (0, n)), (3, (0, s)), (4, (0, j))]) (st' := [(2, 35)]) rfl ?_
            refine jget hF 13 87 2 87 rfl (by decide) (by decide) rfl wd_1550 (by decide +kernel) (by exact hS.k35) ?_
            rw [SR.r87 hR_m_10]
            refine jblk hF [(.bipush 40, 2), (.iload_n 3, 1), (.imul, 1), (.iload 4, 2), (.iadd, 1)] (by decide +kernel) (pc' := 71) (lo' := [(0, (2, 35)), (1, (0, p)), (2, (0, n)), (3, (0, s)), (4, (0, j))]) (st' := [(0, (40 * s) + j), (2, 99)]) rfl ?_
            refine jlald hF (by decide +kernel) (by exact hS.k99) (by omega) (by have := hS.l99; omega) ?_
            refine jblk hF [(.aload_n 0, 1)] (by decide +kernel) (pc' := 73) (lo' := [(0, (2, 35)), (1, (0, p)), (2, (0, n)), (3, (0, s)), (4, (0, j))]) (st' := [(2, 35), (1, m_10 99 ((40 * s) + j))]) rfl ?_
            refine jget hF 13 37 2 37 rfl (by decide) (by decide) rfl wd_1500 (by decide +kernel) (by exact hS.k35) ?_
            rw [SR.r37 hR_m_10]
            refine jblk hF [(.iload_n 2, 1)] (by decide +kernel) (pc' := 77) (lo' := [(0, (2, 35)), (1, (0, p)), (2, (0, n)), (3, (0, s)), (4, (0, j))]) (st' := [(0, n), (2, 61), (1, m_10 99 ((40 * s) + j))]) rfl ?_
            refine jlald hF (by decide +kernel) (by exact hS.k61) (by omega) (by have := hS.l61; omega) ?_
            refine jblk hF [(.lsub, 1), (.lstore 5, 2), (.lload 5, 2)] (by decide +kernel) (pc' := 83) (lo' := [(5, (1, (m_10 99 ((40 * s) + j)) - (m_10 61 n))), (0, (2, 35)), (1, (0, p)), (2, (0, n)), (3, (0, s)), (4, (0, j))]) (st' := [(1, (m_10 99 ((40 * s) + j)) - (m_10 61 n))]) rfl ?_
            refine jlconst hF (n := 0) 0 rfl (by decide +kernel) ?_
            refine jlcmpW_ne hF (off := 6) 91 (by decide +kernel) (by decide +kernel) (by decide) (fun h_12 => ?_) (fun h_12 => ?_)
            · refine jblk hF [(.lload 5, 2)] (by decide +kernel) (pc' := 93) (lo' := [(5, (1, (m_10 99 ((40 * s) + j)) - (m_10 61 n))), (0, (2, 35)), (1, (0, p)), (2, (0, n)), (3, (0, s)), (4, (0, j))]) (st' := [(1, (m_10 99 ((40 * s) + j)) - (m_10 61 n))]) rfl ?_
              refine jldc2 hF (-1000000) (cst_l wd_1913 (by decide)) (by decide +kernel) ?_
              refine jlcmpW_lt hF (off := 12) 109 (by decide +kernel) (by decide +kernel) (by decide) (fun h_13 => ?_) (fun h_13 => ?_)
              · refine jblk hF [(.iconst (-1), 1)] (by decide +kernel) (pc' := 110) (lo' := [(5, (1, (m_10 99 ((40 * s) + j)) - (m_10 61 n))), (0, (2, 35)), (1, (0, p)), (2, (0, n)), (3, (0, s)), (4, (0, j))]) (st' := [(0, (-1))]) rfl ?_
                refine jgoto hF (off := 14) 124 (by decide +kernel) (by decide) ?_
                refine jiret hF hr (by decide +kernel) ?_
                exact lMR ⟨hR_m_10, by first | exact ⟨fun h => absurd (by omega) h, fun _ h => absurd (by omega) h, fun _ _ => ⟨fun h => absurd h (by omega), fun _ _ => ⟨rfl, hK.1⟩, fun _ h => absurd (by omega) h⟩⟩ | (refine ⟨fun h => absurd (by omega) h, fun _ h => absurd (by omega) h, fun _ _ => ⟨fun h => absurd h (by omega), fun h0 h1 => ?_, fun h0 h1 => ?_⟩⟩; (have hz := hZ.2 (by omega); exact ⟨hz.1, by rw [hz.2]; exact hK.1⟩); (have hz := hZ.1 (by omega); exact ⟨hz.1.trans e45, _, hK.1, by rw [hz.2, hW]⟩))⟩
              · refine jblk hF [(.lload 5, 2)] (by decide +kernel) (pc' := 102) (lo' := [(5, (1, (m_10 99 ((40 * s) + j)) - (m_10 61 n))), (0, (2, 35)), (1, (0, p)), (2, (0, n)), (3, (0, s)), (4, (0, j))]) (st' := [(1, (m_10 99 ((40 * s) + j)) - (m_10 61 n))]) rfl ?_
                refine jldc2 hF 1000000 (cst_l wd_1914 (by decide)) (by decide +kernel) ?_
                refine jlcmpW_le hF (off := 7) 113 (by decide +kernel) (by decide +kernel) (by decide) (fun h_14 => ?_) (fun h_14 => ?_)
                · refine jblk hF [(.aload_n 0, 1), (.iload_n 1, 1), (.iload_n 2, 1), (.bipush 9, 2), (.lload 5, 2)] (by decide +kernel) (pc' := 120) (lo' := [(5, (1, (m_10 99 ((40 * s) + j)) - (m_10 61 n))), (0, (2, 35)), (1, (0, p)), (2, (0, n)), (3, (0, s)), (4, (0, j))]) (st' := [(1, (m_10 99 ((40 * s) + j)) - (m_10 61 n)), (0, 9), (0, n), (0, p), (2, 35)]) rfl ?_
                  refine jwL0 ?_
                  refine jblk hF [(.l2i, 1)] (by decide +kernel) (pc' := 121) (lo' := [(5, (1, (m_10 99 ((40 * s) + j)) - (m_10 61 n))), (0, (2, 35)), (1, (0, p)), (2, (0, n)), (3, (0, s)), (4, (0, j))]) (st' := [(0, wL ((m_10 99 ((40 * s) + j)) - (m_10 61 n))), (0, 9), (0, n), (0, p), (2, 35)]) rfl ?_
                  refine jcallV hF (c_X12_slip hG hS hR_m_10 p n 9 (wL ((m_10 99 ((40 * s) + j)) - (m_10 61 n))) (by omega) (by omega) (by decide) (by omega) (by first | exact hE.fPGS e33 hPS | (exact hPS)) (by first | (rw [e45]; omega) | (omega))) MW_X12_slip 13 (by decide) (by exact hS.k35) wd_2236 wd_1963 wd_1964 (by decide +kernel) [] rfl rfl (by decide) (Nat.le_of_ble_eq_true rfl) (by decide) (kMR (fun v_17 m_15 h_16 => ?_))
                  obtain ⟨hR_m_15, h_16⟩ := h_16
                  have hZ := h_16
                  refine jiret hF hr (by decide +kernel) ?_
                  exact lMR ⟨hR_m_15, by first | exact ⟨fun h => absurd (by omega) h, fun _ h => absurd (by omega) h, fun _ _ => ⟨fun h => absurd h (by omega), fun _ _ => ⟨rfl, hK.1⟩, fun _ h => absurd (by omega) h⟩⟩ | (refine ⟨fun h => absurd (by omega) h, fun _ h => absurd (by omega) h, fun _ _ => ⟨fun h => absurd h (by omega), fun h0 h1 => ?_, fun h0 h1 => ?_⟩⟩; (have hz := hZ.2 (by omega); exact ⟨hz.1, by rw [hz.2]; exact hK.1⟩); (have hz := hZ.1 (by omega); exact ⟨hz.1.trans e45, _, hK.1, by rw [hz.2, hW]⟩))⟩
                · refine jblk hF [(.iconst (-1), 1)] (by decide +kernel) (pc' := 110) (lo' := [(5, (1, (m_10 99 ((40 * s) + j)) - (m_10 61 n))), (0, (2, 35)), (1, (0, p)), (2, (0, n)), (3, (0, s)), (4, (0, j))]) (st' := [(0, (-1))]) rfl ?_
                  refine jgoto hF (off := 14) 124 (by decide +kernel) (by decide) ?_
                  refine jiret hF hr (by decide +kernel) ?_
                  exact lMR ⟨hR_m_10, by first | exact ⟨fun h => absurd (by omega) h, fun _ h => absurd (by omega) h, fun _ _ => ⟨fun h => absurd h (by omega), fun _ _ => ⟨rfl, hK.1⟩, fun _ h => absurd (by omega) h⟩⟩ | (refine ⟨fun h => absurd (by omega) h, fun _ h => absurd (by omega) h, fun _ _ => ⟨fun h => absurd h (by omega), fun h0 h1 => ?_, fun h0 h1 => ?_⟩⟩; (have hz := hZ.2 (by omega); exact ⟨hz.1, by rw [hz.2]; exact hK.1⟩); (have hz := hZ.1 (by omega); exact ⟨hz.1.trans e45, _, hK.1, by rw [hz.2, hW]⟩))⟩
            · refine jblk hF [(.bipush (-3), 2)] (by decide +kernel) (pc' := 90) (lo' := [(5, (1, (m_10 99 ((40 * s) + j)) - (m_10 61 n))), (0, (2, 35)), (1, (0, p)), (2, (0, n)), (3, (0, s)), (4, (0, j))]) (st' := [(0, (-3))]) rfl ?_
              refine jiret hF hr (by decide +kernel) ?_
              exact lMR ⟨hR_m_10, by exact ⟨fun h => absurd (by omega) h, fun _ h => absurd (by omega) h, fun _ _ => ⟨fun _ => ⟨rfl, hK.1⟩, fun h => absurd (by omega) h, fun h => absurd (by omega) h⟩⟩⟩
          · refine jif_ne hF (off := 6) 51 (by decide +kernel) (by decide) (by decide) (fun h => absurd h (by decide)) (fun _ => ?_)
            refine jblk hF [(.bipush (-2), 2)] (by decide +kernel) (pc' := 50) (lo' := [(0, (2, 35)), (1, (0, p)), (2, (0, n)), (3, (0, s)), (4, (0, j))]) (st' := [(0, (-2))]) rfl ?_
            refine jiret hF hr (by decide +kernel) ?_
            exact lMR ⟨hR, by exact ⟨fun h => absurd (by omega) h, fun _ _ => ⟨rfl, rfl⟩, fun _ h => absurd h (by omega)⟩⟩
      · refine jif_ne hF (off := 5) 28 (by decide +kernel) (by decide) (by decide) (fun h => absurd h (by decide)) (fun _ => ?_)
        refine jblk hF [(.iconst (-1), 1)] (by decide +kernel) (pc' := 27) (lo' := [(0, (2, 35)), (1, (0, p)), (2, (0, n)), (3, (0, s)), (4, (0, j))]) (st' := [(0, (-1))]) rfl ?_
        refine jiret hF hr (by decide +kernel) ?_
        exact lMR ⟨hR, by exact ⟨fun _ => ⟨rfl, rfl⟩, fun h => absurd h (by omega), fun h => absurd h (by omega)⟩⟩
    · refine jif_eq hF (off := 11) 26 (by decide +kernel) (by decide) (by decide) (fun _ => ?_) (fun h => absurd h (by decide))
      refine jblk hF [(.iconst (-1), 1)] (by decide +kernel) (pc' := 27) (lo' := [(0, (2, 35)), (1, (0, p)), (2, (0, n)), (3, (0, s)), (4, (0, j))]) (st' := [(0, (-1))]) rfl ?_
      refine jiret hF hr (by decide +kernel) ?_
      exact lMR ⟨hR, by exact ⟨fun _ => ⟨rfl, rfl⟩, fun h => absurd h (by omega), fun h => absurd h (by omega)⟩⟩
  · refine jif_eq hF (off := 20) 26 (by decide +kernel) (by decide) (by decide) (fun _ => ?_) (fun h => absurd h (by decide))
    refine jblk hF [(.iconst (-1), 1)] (by decide +kernel) (pc' := 27) (lo' := [(0, (2, 35)), (1, (0, p)), (2, (0, n)), (3, (0, s)), (4, (0, j))]) (st' := [(0, (-1))]) rfl ?_
    refine jiret hF hr (by decide +kernel) ?_
    exact lMR ⟨hR, by exact ⟨fun _ => ⟨rfl, rfl⟩, fun h => absurd h (by omega), fun h => absurd h (by omega)⟩⟩
end
