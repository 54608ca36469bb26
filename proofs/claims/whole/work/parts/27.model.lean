section
theorem EQ36.fCHK0 {mem mm : Int → Int → Int} (h : EQ36 mem mm) : mm 56 = mem 56 ∧ mm 57 = mem 57 ∧ mm 47 = mem 47 := ⟨h.at 56 (by decide), h.at 57 (by decide), h.at 47 (by decide)⟩
abbrev CHK (mem : Int → Int → Int) : Prop := ∀ p n : Int, 0 ≤ p → p < 12 → 0 ≤ n → n < mem 47 p → InI (mem 56 (40 * p + n)) ∧ InI (mem 57 (40 * p + n))
theorem EQ36.fCHK {mem mm : Int → Int → Int} (h : EQ36 mem mm) (hc : CHK mem) : CHK mm := fun p n h1 h2 h3 h4 => by
  rw [h.fCHK0.2.2] at h4
  rw [h.fCHK0.1, h.fCHK0.2.1]
  exact hc p n h1 h2 h3 h4
theorem emod_bd2 (n m : Int) (hm : 1 ≤ m) : 0 ≤ n % m ∧ n % m < m := ⟨Int.emod_nonneg n (by omega), Int.emod_lt_of_pos n (by omega)⟩
theorem boundV_bd {mem : Int → Int → Int} {p n : Int} (hp : PG mem p) (h0 : 0 ≤ n) (h1 : n ≤ 39) : 0 ≤ boundV mem p n ∧ boundV mem p n ≤ 30000000000000000 := by
  have hq := emod_bd n (mem 52 p) (by omega) (by omega)
  unfold boundV
  split
  · have hb := bndN_bd (i := n % mem 52 p) (o := mem 49 p) (by omega) (by omega) (by omega) (mem 49 p + 1).toNat (by omega)
    omega
  · omega
/-- the difference of order t that ends at n -/
def difF (nm : Int → Int) (n t : Int) : Nat → Int
  | 0 => 0
  | k + 1 => difF nm n t k + (if (k : Int) % 2 = 0 then 1 else -1) * chN t k * nm (n - k)
def sumC (cl : Int → Int) (a : Int) : Nat → Int
  | 0 => 0
  | k + 1 => sumC cl a k + cl (a + k)
def absV (x : Int) : Int := if x < 0 then -x else x
/-- line n's check, over numbers and first columns -/
abbrev hldV (mem : Int → Int → Int) (nm cl : Int → Int) (p n : Int) : Prop :=
  if mem 56 (40 * p + n) = 1 then n % mem 52 p ≤ mem 49 p ∨ wL (nm n - nm (n - n % mem 52 p)) = wL (nm (n - n % mem 52 p + mem 49 p) - nm (n - n % mem 52 p) + sumC cl (n - n % mem 52 p + mem 49 p + 1) (n % mem 52 p - mem 49 p).toNat)
  else if mem 56 (40 * p + n) = 2 then n % mem 52 p ≤ mem 49 p ∨ wL (difF nm n (mem 49 p + 1) (mem 49 p + 1 + 1).toNat) = wL 0
  else mem 56 (40 * p + n) = 0 ∨ wL (absV (wL (nm n - nearP mem p n))) ≤ wL (mem 57 (40 * p + n))
theorem chN_5e (n k : Int) (h : 0 ≤ k ∧ k ≤ 5 ∧ k ≤ n ∧ n ≤ 40) : 0 ≤ chN n k.toNat ∧ chN n k.toNat ≤ 102400000 := chN_5 (by omega) (by omega) (by omega)
theorem absV_bd (x : Int) : (0 ≤ x → absV x = x) ∧ (x < 0 → absV x = -x) := by
  unfold absV
  exact ⟨fun h => if_neg (by omega), fun h => if_pos h⟩
set_option maxHeartbeats 4000000 in
set_option maxRecDepth 100000 in
theorem c_absW {l : Launch} {g : GP} (hG : GH g) {kd : Int → Nat} {ln : Int → Int} {mem : Int → Int → Int} {sz : Nat} (x : Int) (hx : InL x) : MT l g yJ9_abs_067f4 cJ9_abs_067f4 2 (some .long) 0 0 0 [(1, x)] kd ln mem sz (pV (1, absV x) kd ln mem sz) := by
  refine MT_ofF hG (by decide +kernel) (Nat.le_of_ble_eq_true rfl) (fun z hF hr hn => ?_)
  refine jblk hF [(.lload_n 0, 1)] (by decide +kernel) (pc' := 1) (lo' := [(0, (1, x))]) (st' := [(1, x)]) rfl ?_
  refine jlconst hF (n := 0) 0 rfl (by decide +kernel) ?_
  refine jlcmp_ge hF (off := 8) 11 (by decide +kernel) (by decide +kernel) (by decide) (by omega) (by decide) (fun h_1 => ?_) (fun h_1 => ?_)
  · refine jblk hF [(.lload_n 0, 1)] (by decide +kernel) (pc' := 12) (lo' := [(0, (1, x))]) (st' := [(1, x)]) rfl ?_
    refine jlret hF hr (by decide +kernel) ?_
    exact lV (by first | exact (if_pos (by omega)).symm | exact (if_neg (by omega)).symm)
  · refine jblk hF [(.lload_n 0, 1), (.lneg, 1)] (by decide +kernel) (pc' := 8) (lo' := [(0, (1, x))]) (st' := [(1, -x)]) rfl ?_
    refine jgoto hF (off := 4) 12 (by decide +kernel) (by decide) ?_
    refine jlret hF hr (by decide +kernel) ?_
    exact lV (by first | exact (if_pos (by omega)).symm | exact (if_neg (by omega)).symm)
set_option maxHeartbeats 4000000 in
set_option maxRecDepth 100000 in
theorem c_X12_nearestAt {l : Launch} {g : GP} (hG : GH g) {kd : Int → Nat} {ln : Int → Int} {mem : Int → Int → Int} {sz : Nat} (hS : SK kd ln) (hR : SR mem) (p n : Int) (hp : PG mem p) (hn1 : 0 ≤ n ∧ n < mem 47 p) : MT l g yX12_nearestAt cX12_nearestAt 3 (some .long) 3 0 0 [(2, 35), (0, p), (0, n)] kd ln mem sz (pV (1, nearP mem p n) kd ln mem sz) := by
  refine MT_of hG (by decide +kernel) (Nat.le_of_ble_eq_true rfl) (fun z hF hr hn => ?_)
  have hx := xof_bd (n := n) hp (by omega) (by omega)
  refine jblk hF [(.aload_n 0, 1), (.aload_n 0, 1)] (by decide +kernel) (pc' := 2) (lo' := [(0, (2, 35)), (1, (0, p)), (2, (0, n))]) (st' := [(2, 35), (2, 35)]) rfl ?_
  refine jget hF 13 20 2 20 rfl (by decide) (by decide) rfl wd_1483 (by decide +kernel) (by exact hS.k35) ?_
  rw [SR.r20 hR]
  refine jblk hF [(.iload_n 1, 1)] (by decide +kernel) (pc' := 6) (lo' := [(0, (2, 35)), (1, (0, p)), (2, (0, n))]) (st' := [(0, p), (2, 45), (2, 35)]) rfl ?_
  refine jiald hF (by decide +kernel) (by exact hS.k45) (by omega) (by have := hS.l45; omega) ?_
  refine jblk hF [(.aload_n 0, 1), (.iload_n 1, 1), (.iload_n 2, 1)] (by decide +kernel) (pc' := 10) (lo' := [(0, (2, 35)), (1, (0, p)), (2, (0, n))]) (st' := [(0, n), (0, p), (2, 35), (0, mem 45 p), (2, 35)]) rfl ?_
  refine jcallV hF (c_X12_xOf hG hS hR p n (by first | omega | exact hE.fPG hp | exact (EQ36.f _ _).fPG hp) (by omega)) MW_X12_xOf 13 (by decide) (by exact hS.k35) wd_1958 wd_1960 wd_p77 (by decide +kernel) [(0, mem 45 p), (2, 35)] rfl rfl (by decide) (Nat.le_of_ble_eq_true rfl) (by decide) (kV ?_)
  refine jblk hF [(.aload_n 0, 1)] (by decide +kernel) (pc' := 14) (lo' := [(0, (2, 35)), (1, (0, p)), (2, (0, n))]) (st' := [(2, 35), (0, mem 46 p + n * mem 48 p), (0, mem 45 p), (2, 35)]) rfl ?_
  refine jget hF 13 25 2 25 rfl (by decide) (by decide) rfl wd_1488 (by decide +kernel) (by exact hS.k35) ?_
  rw [SR.r25 hR]
  refine jblk hF [(.iload_n 1, 1)] (by decide +kernel) (pc' := 18) (lo' := [(0, (2, 35)), (1, (0, p)), (2, (0, n))]) (st' := [(0, p), (2, 50), (0, mem 46 p + n * mem 48 p), (0, mem 45 p), (2, 35)]) rfl ?_
  refine jiald hF (by decide +kernel) (by exact hS.k50) (by omega) (by have := hS.l50; omega) ?_
  refine jblk hF [(.aload_n 0, 1)] (by decide +kernel) (pc' := 20) (lo' := [(0, (2, 35)), (1, (0, p)), (2, (0, n))]) (st' := [(2, 35), (0, mem 50 p), (0, mem 46 p + n * mem 48 p), (0, mem 45 p), (2, 35)]) rfl ?_
  refine jget hF 13 26 2 26 rfl (by decide) (by decide) rfl wd_1489 (by decide +kernel) (by exact hS.k35) ?_
  rw [SR.r26 hR]
  refine jblk hF [(.iload_n 1, 1)] (by decide +kernel) (pc' := 24) (lo' := [(0, (2, 35)), (1, (0, p)), (2, (0, n))]) (st' := [(0, p), (2, 51), (0, mem 50 p), (0, mem 46 p + n * mem 48 p), (0, mem 45 p), (2, 35)]) rfl ?_
  refine jiald hF (by decide +kernel) (by exact hS.k51) (by omega) (by have := hS.l51; omega) ?_
  refine jblk hF [(.iadd, 1), (.iconst 0, 1)] (by decide +kernel) (pc' := 27) (lo' := [(0, (2, 35)), (1, (0, p)), (2, (0, n))]) (st' := [(0, 0), (0, (mem 50 p) + (mem 51 p)), (0, mem 46 p + n * mem 48 p), (0, mem 45 p), (2, 35)]) rfl ?_
  refine jcallV hF (c_X12_nearestOf hG hS hR (mem 45 p) (mem 46 p + n * mem 48 p) ((mem 50 p) + (mem 51 p)) 0 (by omega) (by omega) (by omega)) MW_X12_nearestOf 13 (by decide) (by exact hS.k35) wd_1802 wd_1804 wd_p53 (by decide +kernel) [] rfl rfl (by decide) (Nat.le_of_ble_eq_true rfl) (by decide) (kV ?_)
  have hf_1 := @near_bd (mem 36 (mem 45 p)) (mem 37 (mem 45 p)) (mem 38 (mem 45 p)) (mem 46 p + n * mem 48 p) ((mem 50 p) + (mem 51 p)) 0 (by omega) (by omega)
  refine jlret hF hr (by decide +kernel) ?_
  exact lV (by rfl)
set_option maxHeartbeats 4000000 in
set_option maxRecDepth 100000 in
theorem c_X12_stray {l : Launch} {g : GP} (hG : GH g) {kd : Int → Nat} {ln : Int → Int} {mem : Int → Int → Int} {sz : Nat} (hS : SK kd ln) (hR : SR mem) (p n : Int) (h_p : InI p) (h_n : InI n) (hPS : PGS mem) : MT l g yX12_stray cX12_stray 3 (some .long) 7 0 0 [(2, 35), (0, p), (0, n)] kd ln mem sz (pMR 1 (fun v mem' => SR mem' ∧ (((isLn mem p n) → v = numT mem p n - nearP mem p n ∧ FR (thr mem 0) mem') ∧ (¬ (isLn mem p n) → v = 0 ∧ mem' = thr mem 1))) kd ln sz) := by
  refine MT_of hG (by decide +kernel) (Nat.le_of_ble_eq_true rfl) (fun z hF hr hn => ?_)
  refine jblk hF [(.aload_n 0, 1), (.aload_n 0, 1), (.iload_n 1, 1), (.iload_n 2, 1)] (by decide +kernel) (pc' := 4) (lo' := [(0, (2, 35)), (1, (0, p)), (2, (0, n))]) (st' := [(0, n), (0, p), (2, 35), (2, 35)]) rfl ?_
  refine jcallV hF (c_X12_isLine hG hS hR p n (by omega) (by omega) (by exact hPS)) MW_X12_isLine 13 (by decide) (by exact hS.k35) wd_1954 wd_1956 wd_p76 (by decide +kernel) [(2, 35)] rfl rfl (by decide) (Nat.le_of_ble_eq_true rfl) (by decide) (kB (fun h_1 => ?_) (fun h_1 => ?_))
  · refine jif_eq hF (off := 7) 14 (by decide +kernel) (by decide) (by decide) (fun h => absurd h (by decide)) (fun _ => ?_)
    have hp := hPS.2.2 p (by omega) (by omega)
    refine jblk hF [(.iconst 0, 1)] (by decide +kernel) (pc' := 11) (lo' := [(0, (2, 35)), (1, (0, p)), (2, (0, n))]) (st' := [(0, 0), (2, 35)]) rfl ?_
    refine jgoto hF (off := 4) 15 (by decide +kernel) (by decide) ?_
    refine jput hF 13 1 0 1 rfl (by decide) (by decide) rfl wd_1464 (by decide +kernel) rfl (Or.inl rfl) (by exact hS.k35) (fun h => by cases h) ?_
    refine jblk hF [(.aload_n 0, 1)] (by decide +kernel) (pc' := 19) (lo' := [(0, (2, 35)), (1, (0, p)), (2, (0, n))]) (st' := [(2, 35)]) rfl ?_
    refine jget hF 13 1 0 1 rfl (by decide) (by decide) rfl wd_1464 (by decide +kernel) (by exact hS.k35) ?_
    rw [show (set2 mem 35 1 0) 35 1 = 0 from s2_s]
    refine jblk hF [(.iconst 1, 1)] (by decide +kernel) (pc' := 23) (lo' := [(0, (2, 35)), (1, (0, p)), (2, (0, n))]) (st' := [(0, 1), (0, 0)]) rfl ?_
    refine jicmp_ne hF (off := 7) 30 (by decide +kernel) (by decide) (by decide) (by decide) (fun _ => ?_) (fun h => absurd h (by decide))
    refine jblk hF [(.aload_n 0, 1), (.iload_n 1, 1), (.iload_n 2, 1)] (by decide +kernel) (pc' := 33) (lo' := [(0, (2, 35)), (1, (0, p)), (2, (0, n))]) (st' := [(0, n), (0, p), (2, 35)]) rfl ?_
    refine jcallV hF (c_X12_trueNumber hG hS (SR.s hR (Or.inr (by decide))) p n (by first | omega | exact hE.fPG hp | exact (EQ36.f _ _).fPG hp) (by first | omega | (have e9 := (EQ36.f 1 0 : EQ36 mem _).at 47 (by decide); rw [e9]; omega))) MW_X12_trueNumber 13 (by decide) (by exact hS.k35) wd_1980 wd_1982 wd_p79 (by decide +kernel) [] rfl rfl (by decide) (Nat.le_of_ble_eq_true rfl) (by decide) (kMR (fun v_6 m_4 h_5 => ?_))
    obtain ⟨hR_m_4, h_5⟩ := h_5
    have hK := h_5
    have hE : EQ36 mem m_4 := (EQ36.f 1 0).tr hK.2.e
    refine jblk hF [(.aload_n 0, 1), (.iload_n 1, 1), (.iload_n 2, 1)] (by decide +kernel) (pc' := 39) (lo' := [(0, (2, 35)), (1, (0, p)), (2, (0, n))]) (st' := [(0, n), (0, p), (2, 35), (1, v_6)]) rfl ?_
    refine jcallV hF (c_X12_nearestAt hG hS hR_m_4 p n (by first | omega | exact hE.fPG hp | exact (EQ36.f _ _).fPG hp) (by first | omega | (rw [hE.at 47 (by decide)]; omega) | (rw [(EQ36.f 1 0 : EQ36 mem _).at 47 (by decide)]; omega))) MW_X12_nearestAt 13 (by decide) (by exact hS.k35) wd_2043 wd_2045 wd_p89 (by decide +kernel) [(1, v_6)] rfl rfl (by decide) (Nat.le_of_ble_eq_true rfl) (by decide) (kV ?_)
    refine jblk hF [(.lsub, 1)] (by decide +kernel) (pc' := 43) (lo' := [(0, (2, 35)), (1, (0, p)), (2, (0, n))]) (st' := [(1, v_6 - (nearP m_4 p n))]) rfl ?_
    refine jlret hF hr (by decide +kernel) ?_
    exact lMR ⟨hR_m_4, by first | exact ⟨fun h => absurd h (by omega), fun _ => ⟨rfl, rfl⟩⟩ | exact ⟨fun _ => ⟨by rw [hE.fnearP, hK.1, (EQ36.f 1 0 : EQ36 mem _).fnumT], hK.2⟩, fun h => absurd (by omega) h⟩⟩
  · refine jif_eq hF (off := 7) 14 (by decide +kernel) (by decide) (by decide) (fun _ => ?_) (fun h => absurd h (by decide))
    refine jblk hF [(.iconst 1, 1)] (by decide +kernel) (pc' := 15) (lo' := [(0, (2, 35)), (1, (0, p)), (2, (0, n))]) (st' := [(0, 1), (2, 35)]) rfl ?_
    refine jput hF 13 1 0 1 rfl (by decide) (by decide) rfl wd_1464 (by decide +kernel) rfl (Or.inl rfl) (by exact hS.k35) (fun h => by cases h) ?_
    refine jblk hF [(.aload_n 0, 1)] (by decide +kernel) (pc' := 19) (lo' := [(0, (2, 35)), (1, (0, p)), (2, (0, n))]) (st' := [(2, 35)]) rfl ?_
    refine jget hF 13 1 0 1 rfl (by decide) (by decide) rfl wd_1464 (by decide +kernel) (by exact hS.k35) ?_
    rw [show (set2 mem 35 1 1) 35 1 = 1 from s2_s]
    refine jblk hF [(.iconst 1, 1)] (by decide +kernel) (pc' := 23) (lo' := [(0, (2, 35)), (1, (0, p)), (2, (0, n))]) (st' := [(0, 1), (0, 1)]) rfl ?_
    refine jicmp_ne hF (off := 7) 30 (by decide +kernel) (by decide) (by decide) (by decide) (fun h => absurd h (by decide)) (fun _ => ?_)
    refine jlconst hF (n := 0) 0 rfl (by decide +kernel) ?_
    refine jgoto hF (off := 16) 43 (by decide +kernel) (by decide) ?_
    refine jlret hF hr (by decide +kernel) ?_
    exact lMR ⟨(SR.s hR (Or.inr (by decide))), by first | exact ⟨fun h => absurd h (by omega), fun _ => ⟨rfl, rfl⟩⟩ | exact ⟨fun _ => ⟨by rw [hE.fnearP, hK.1, (EQ36.f 1 0 : EQ36 mem _).fnumT], hK.2⟩, fun h => absurd (by omega) h⟩⟩
set_option maxHeartbeats 4000000 in
set_option maxRecDepth 100000 in
theorem c_X12_choose {l : Launch} {g : GP} (hG : GH g) {kd : Int → Nat} {ln : Int → Int} {mem : Int → Int → Int} {sz : Nat} (n k : Int) (hk : 0 ≤ k ∧ k ≤ 5 ∧ k ≤ n ∧ n ≤ 40) : MT l g yX12_choose cX12_choose 5 (some .long) 0 0 0 [(0, n), (0, k)] kd ln mem sz (pV (1, chN n k.toNat) kd ln mem sz) := by
  refine MT_of hG (by decide +kernel) (Nat.le_of_ble_eq_true rfl) (fun z hF hr hn => ?_)
  refine jlconst hF (n := 1) 1 rfl (by decide +kernel) ?_
  refine jblk hF [(.lstore_n 2, 1), (.iconst 0, 1), (.istore 4, 2)] (by decide +kernel) (pc' := 5) (lo' := [(4, (0, 0)), (2, (1, 1)), (0, (0, n)), (1, (0, k))]) (st' := []) rfl ?_
  have L_2 : ∀ (fu_3 : Nat) (v : Int) (i : Int), (0 ≤ i ∧ i ≤ k) → (v = chN n i.toNat) →  (k - i).toNat < fu_3 → J z g 5 0 0 (QM z g 0 0 (pV (1, chN n k.toNat) kd ln mem sz)) 5 [(0, (0, n)), (1, (0, k)), (2, (1, v)), (4, (0, i))] [] kd ln mem sz := by
    intro fu_3
    induction fu_3 with
    | zero => intro v i _ _ hm; omega
    | succ fu_3 ih_1 =>
      intro v i hi hv hm
      refine jblk hF [(.iload 4, 2), (.iload_n 1, 1)] (by decide +kernel) (pc' := 8) (lo' := [(0, (0, n)), (1, (0, k)), (2, (1, v)), (4, (0, i))]) (st' := [(0, k), (0, i)]) rfl ?_
      refine jicmp_ge hF (off := 23) 31 (by decide +kernel) (by decide) (by omega) (by omega) (fun h_4 => ?_) (fun h_4 => ?_)
      · refine jblk hF [(.lload_n 2, 1)] (by decide +kernel) (pc' := 32) (lo' := [(0, (0, n)), (1, (0, k)), (2, (1, v)), (4, (0, i))]) (st' := [(1, v)]) rfl ?_
        refine jlret hF hr (by decide +kernel) ?_
        exact lV (by rw [hv]; congr 1; omega)
      · have hb := chN_5 (n := n) (by omega) (k := i.toNat) (by omega) (by omega)
        have hm2 := mul_bd (a := v) (b := n - i) (M := 102400000) (N := 40) (by omega) (by omega)
        refine jblk hF [(.lload_n 2, 1), (.iload_n 0, 1), (.iload 4, 2), (.isub, 1)] (by decide +kernel) (pc' := 16) (lo' := [(0, (0, n)), (1, (0, k)), (2, (1, v)), (4, (0, i))]) (st' := [(0, n - i), (1, v)]) rfl ?_
        refine ji2l hF (by decide +kernel) (by omega) ?_
        refine jblk hF [(.lmul, 1), (.iload 4, 2)] (by decide +kernel) (pc' := 20) (lo' := [(0, (0, n)), (1, (0, k)), (2, (1, v)), (4, (0, i))]) (st' := [(0, i), (1, v * (n - i))]) rfl ?_
        refine ji2l hF (by decide +kernel) (by omega) ?_
        refine jlconst hF (n := 1) 1 rfl (by decide +kernel) ?_
        refine jblk hF [(.ladd, 1)] (by decide +kernel) (pc' := 23) (lo' := [(0, (0, n)), (1, (0, k)), (2, (1, v)), (4, (0, i))]) (st' := [(1, i + 1), (1, v * (n - i))]) rfl ?_
        refine jldivN hF (by decide +kernel) (by omega) (by omega) ?_
        refine jblk hF [(.lstore_n 2, 1), (.iinc 4 1, 3)] (by decide +kernel) (pc' := 28) (lo' := [(4, (0, i + 1)), (2, (1, (v * (n - i)) / (i + 1))), (0, (0, n)), (1, (0, k))]) (st' := []) rfl ?_
        refine jgoto hF (off := (-23)) 5 (by decide +kernel) (by decide) ?_
        refine jsub [2, 3, 1, 0] rfl ?_
        refine ih_1 ((v * (n - i)) / (i + 1)) (i + 1) ?_ ?_ ?_
        · omega
        · rw [show (i + 1).toNat = i.toNat + 1 by omega, chN, show ((i.toNat : Nat) : Int) = i by omega, hv]
        · omega
  refine jsub [2, 3, 1, 0] rfl ?_
  refine L_2 _ 1 0 ?_ ?_ (Nat.lt_succ_self _)
  · omega
  · rfl
set_option maxHeartbeats 4000000 in
set_option maxRecDepth 100000 in
theorem c_X12_boundOf {l : Launch} {g : GP} (hG : GH g) {kd : Int → Nat} {ln : Int → Int} {mem : Int → Int → Int} {sz : Nat} (hS : SK kd ln) (hR : SR mem) (p n : Int) (hp : PG mem p) (hn1 : 0 ≤ n ∧ n ≤ 39) : MT l g yX12_boundOf cX12_boundOf 8 (some .long) 2 0 0 [(2, 35), (0, p), (0, n)] kd ln mem sz (pV (1, boundV mem p n) kd ln mem sz) := by
  refine MT_of hG (by decide +kernel) (Nat.le_of_ble_eq_true rfl) (fun z hF hr hn => ?_)
  refine jblk hF [(.aload_n 0, 1), (.iload_n 1, 1), (.iload_n 2, 1)] (by decide +kernel) (pc' := 3) (lo' := [(0, (2, 35)), (1, (0, p)), (2, (0, n))]) (st' := [(0, n), (0, p), (2, 35)]) rfl ?_
  refine jcallV hF (c_X12_isMade hG hS hR p n (by first | omega | exact hE.fPG hp | exact (EQ36.f _ _).fPG hp) (by omega)) MW_X12_isMade 13 (by decide) (by exact hS.k35) wd_1942 wd_1944 wd_p74 (by decide +kernel) [] rfl rfl (by decide) (Nat.le_of_ble_eq_true rfl) (by decide) (kB (fun h_1 => ?_) (fun h_1 => ?_))
  · refine jif_ne hF (off := 5) 11 (by decide +kernel) (by decide) (by decide) (fun _ => ?_) (fun h => absurd h (by decide))
    have hq := emod_bd n (mem 52 p) (by omega) (by omega)
    refine jblk hF [(.aload_n 0, 1), (.iload_n 1, 1), (.iload_n 2, 1)] (by decide +kernel) (pc' := 14) (lo' := [(0, (2, 35)), (1, (0, p)), (2, (0, n))]) (st' := [(0, n), (0, p), (2, 35)]) rfl ?_
    refine jcallV hF (c_X12_placeOf hG hS hR p n (by first | omega | exact hE.fPG hp | exact (EQ36.f _ _).fPG hp) (by omega)) MW_X12_placeOf 13 (by decide) (by exact hS.k35) wd_1946 wd_1948 wd_p75 (by decide +kernel) [] rfl rfl (by decide) (Nat.le_of_ble_eq_true rfl) (by decide) (kV ?_)
    have hf_3 := emod_bd (n) (mem 52 p) (by omega) (by omega)
    refine jblk hF [(.istore_n 3, 1), (.aload_n 0, 1)] (by decide +kernel) (pc' := 19) (lo' := [(3, (0, n % mem 52 p)), (0, (2, 35)), (1, (0, p)), (2, (0, n))]) (st' := [(2, 35)]) rfl ?_
    refine jget hF 13 24 2 24 rfl (by decide) (by decide) rfl wd_1487 (by decide +kernel) (by exact hS.k35) ?_
    rw [SR.r24 hR]
    refine jblk hF [(.iload_n 1, 1)] (by decide +kernel) (pc' := 23) (lo' := [(3, (0, n % mem 52 p)), (0, (2, 35)), (1, (0, p)), (2, (0, n))]) (st' := [(0, p), (2, 49)]) rfl ?_
    refine jiald hF (by decide +kernel) (by exact hS.k49) (by omega) (by have := hS.l49; omega) ?_
    refine jblk hF [(.istore 4, 2)] (by decide +kernel) (pc' := 26) (lo' := [(4, (0, mem 49 p)), (3, (0, n % mem 52 p)), (0, (2, 35)), (1, (0, p)), (2, (0, n))]) (st' := []) rfl ?_
    refine jlconst hF (n := 0) 0 rfl (by decide +kernel) ?_
    refine jblk hF [(.lstore 5, 2), (.iconst 0, 1), (.istore 7, 2)] (by decide +kernel) (pc' := 32) (lo' := [(7, (0, 0)), (5, (1, 0)), (4, (0, mem 49 p)), (3, (0, n % mem 52 p)), (0, (2, 35)), (1, (0, p)), (2, (0, n))]) (st' := []) rfl ?_
    have L_5 : ∀ (fu_6 : Nat) (a : Int) (j : Int), (0 ≤ j ∧ j ≤ mem 49 p + 1) → (a = bndN (n % mem 52 p) (mem 49 p) j.toNat) →  (mem 49 p + 1 - j).toNat < fu_6 → J z g 8 0 0 (QM z g 0 0 (pV (1, boundV mem p n) kd ln mem sz)) 32 [(0, (2, 35)), (1, (0, p)), (2, (0, n)), (3, (0, n % mem 52 p)), (4, (0, mem 49 p)), (5, (1, a)), (7, (0, j))] [] kd ln mem sz := by
      intro fu_6
      induction fu_6 with
      | zero => intro a j _ _ hm; omega
      | succ fu_6 ih_4 =>
        intro a j hj ha hm
        have hb := bndN_bd (i := n % mem 52 p) (o := mem 49 p) (by omega) (by omega) (by omega) j.toNat (by omega)
        have hb2 : (j.toNat : Int) * 10485760000000000 ≤ 52428800000000000 := by omega
        refine jblk hF [(.iload 7, 2), (.iload 4, 2)] (by decide +kernel) (pc' := 36) (lo' := [(0, (2, 35)), (1, (0, p)), (2, (0, n)), (3, (0, n % mem 52 p)), (4, (0, mem 49 p)), (5, (1, a)), (7, (0, j))]) (st' := [(0, mem 49 p), (0, j)]) rfl ?_
        refine jicmp_gt hF (off := 35) 71 (by decide +kernel) (by decide) (by omega) (by omega) (fun h_7 => ?_) (fun h_7 => ?_)
        · refine jblk hF [(.lload 5, 2)] (by decide +kernel) (pc' := 73) (lo' := [(0, (2, 35)), (1, (0, p)), (2, (0, n)), (3, (0, n % mem 52 p)), (4, (0, mem 49 p)), (5, (1, a)), (7, (0, j))]) (st' := [(1, a)]) rfl ?_
          refine jlconst hF (n := 1) 1 rfl (by decide +kernel) ?_
          refine jblk hF [(.ladd, 1)] (by decide +kernel) (pc' := 75) (lo' := [(0, (2, 35)), (1, (0, p)), (2, (0, n)), (3, (0, n % mem 52 p)), (4, (0, mem 49 p)), (5, (1, a)), (7, (0, j))]) (st' := [(1, a + 1)]) rfl ?_
          refine jldc2 hF 2 (cst_l wd_1782 (by decide)) (by decide +kernel) ?_
          refine jldivN hF (by decide +kernel) (by omega) (by omega) ?_
          refine jlret hF hr (by decide +kernel) ?_
          exact lV (by first | exact (if_neg (by omega)).symm | (rw [boundV, if_pos (by omega), ha, show j = mem 49 p + 1 by omega]))
        · refine jblk hF [(.lload 5, 2), (.iload_n 3, 1), (.iload 7, 2)] (by decide +kernel) (pc' := 44) (lo' := [(0, (2, 35)), (1, (0, p)), (2, (0, n)), (3, (0, n % mem 52 p)), (4, (0, mem 49 p)), (5, (1, a)), (7, (0, j))]) (st' := [(0, j), (0, n % mem 52 p), (1, a)]) rfl ?_
          refine jcallS hF (c_X12_choose hG (n % mem 52 p) j (by omega)) MW_X12_choose wd_2055 wd_2056 (by decide +kernel) [(1, a)] rfl rfl (by decide) (Nat.le_of_ble_eq_true rfl) (by decide) (kV ?_)
          have hf_8 := chN_5e ((n % mem 52 p)) (j) (by omega)
          refine jblk hF [(.iload_n 3, 1), (.iload 7, 2), (.isub, 1), (.iconst 1, 1), (.isub, 1), (.iload 4, 2), (.iload 7, 2), (.isub, 1)] (by decide +kernel) (pc' := 58) (lo' := [(0, (2, 35)), (1, (0, p)), (2, (0, n)), (3, (0, n % mem 52 p)), (4, (0, mem 49 p)), (5, (1, a)), (7, (0, j))]) (st' := [(0, (mem 49 p) - j), (0, ((n % mem 52 p) - j) - 1), (1, chN (n % mem 52 p) j.toNat), (1, a)]) rfl ?_
          refine jcallS hF (c_X12_choose hG (((n % mem 52 p) - j) - 1) ((mem 49 p) - j) (by omega)) MW_X12_choose wd_2055 wd_2056 (by decide +kernel) [(1, chN (n % mem 52 p) j.toNat), (1, a)] rfl rfl (by decide) (Nat.le_of_ble_eq_true rfl) (by decide) (kV ?_)
          have hf_9 := chN_5e ((((n % mem 52 p) - j) - 1)) (((mem 49 p) - j)) (by omega)
          refine jblk hF [(.lmul, 1), (.ladd, 1), (.lstore 5, 2), (.iinc 7 1, 3)] (by decide +kernel) (pc' := 68) (lo' := [(7, (0, j + 1)), (5, (1, a + ((chN (n % mem 52 p) j.toNat) * (chN (((n % mem 52 p) - j) - 1) ((mem 49 p) - j).toNat)))), (0, (2, 35)), (1, (0, p)), (2, (0, n)), (3, (0, n % mem 52 p)), (4, (0, mem 49 p))]) (st' := []) rfl ?_
          refine jgoto hF (off := (-36)) 32 (by decide +kernel) (by decide) ?_
          refine jsub [2, 3, 4, 5, 6, 1, 0] rfl ?_
          refine ih_4 (a + ((chN (n % mem 52 p) j.toNat) * (chN (((n % mem 52 p) - j) - 1) ((mem 49 p) - j).toNat))) (j + 1) ?_ ?_ ?_
          · omega
          · rw [show (j + 1).toNat = j.toNat + 1 by omega, bndN, show ((j.toNat : Nat) : Int) = j by omega, ha]
          · omega
    refine jsub [4, 5, 6, 3, 2, 1, 0] rfl ?_
    refine L_5 _ 0 0 ?_ ?_ (Nat.lt_succ_self _)
    · omega
    · rfl
  · refine jif_ne hF (off := 5) 11 (by decide +kernel) (by decide) (by decide) (fun h => absurd h (by decide)) (fun _ => ?_)
    refine jlconst hF (n := 1) 1 rfl (by decide +kernel) ?_
    refine jlret hF hr (by decide +kernel) ?_
    exact lV (by first | exact (if_neg (by omega)).symm | (rw [boundV, if_pos (by omega), ha, show j = mem 49 p + 1 by omega]))
set_option maxHeartbeats 4000000 in
set_option maxRecDepth 100000 in
theorem c_X12_bound {l : Launch} {g : GP} (hG : GH g) {kd : Int → Nat} {ln : Int → Int} {mem : Int → Int → Int} {sz : Nat} (hS : SK kd ln) (hR : SR mem) (p n : Int) (h_p : InI p) (h_n : InI n) (hPS : PGS mem) : MT l g yX12_bound cX12_bound 3 (some .long) 3 0 0 [(2, 35), (0, p), (0, n)] kd ln mem sz (pV (1, if isLn mem p n then boundV mem p n else -1) kd ln mem sz) := by
  refine MT_of hG (by decide +kernel) (Nat.le_of_ble_eq_true rfl) (fun z hF hr hn => ?_)
  refine jblk hF [(.aload_n 0, 1), (.iload_n 1, 1), (.iload_n 2, 1)] (by decide +kernel) (pc' := 3) (lo' := [(0, (2, 35)), (1, (0, p)), (2, (0, n))]) (st' := [(0, n), (0, p), (2, 35)]) rfl ?_
  refine jcallV hF (c_X12_isLine hG hS hR p n (by omega) (by omega) (by exact hPS)) MW_X12_isLine 13 (by decide) (by exact hS.k35) wd_1954 wd_1956 wd_p76 (by decide +kernel) [] rfl rfl (by decide) (Nat.le_of_ble_eq_true rfl) (by decide) (kB (fun h_1 => ?_) (fun h_1 => ?_))
  · refine jif_eq hF (off := 12) 18 (by decide +kernel) (by decide) (by decide) (fun h => absurd h (by decide)) (fun _ => ?_)
    have hp := hPS.2.2 p (by omega) (by omega)
    refine jblk hF [(.aload_n 0, 1), (.iload_n 1, 1), (.iload_n 2, 1)] (by decide +kernel) (pc' := 12) (lo' := [(0, (2, 35)), (1, (0, p)), (2, (0, n))]) (st' := [(0, n), (0, p), (2, 35)]) rfl ?_
    refine jcallV hF (c_X12_boundOf hG hS hR p n (by first | omega | exact hE.fPG hp | exact (EQ36.f _ _).fPG hp) (by omega)) MW_X12_boundOf 13 (by decide) (by exact hS.k35) wd_2051 wd_2053 wd_p90 (by decide +kernel) [] rfl rfl (by decide) (Nat.le_of_ble_eq_true rfl) (by decide) (kV ?_)
    refine jgoto hF (off := 6) 21 (by decide +kernel) (by decide) ?_
    refine jlret hF hr (by decide +kernel) ?_
    exact lV (by first | exact (if_pos (by omega)).symm | exact (if_neg (by omega)).symm)
  · refine jif_eq hF (off := 12) 18 (by decide +kernel) (by decide) (by decide) (fun _ => ?_) (fun h => absurd h (by decide))
    refine jldc2 hF (-1) (cst_l wd_1793 (by decide)) (by decide +kernel) ?_
    refine jlret hF hr (by decide +kernel) ?_
    exact lV (by first | exact (if_pos (by omega)).symm | exact (if_neg (by omega)).symm)
set_option maxHeartbeats 4000000 in
set_option maxRecDepth 100000 in
theorem c_X12_drift {l : Launch} {g : GP} (hG : GH g) {kd : Int → Nat} {ln : Int → Int} {mem : Int → Int → Int} {sz : Nat} (hS : SK kd ln) (hR : SR mem) (v : Int) (h_v : InI v) : MT l g yX12_drift cX12_drift 2 (some .boolean) 1 0 0 [(2, 35), (0, v)] kd ln mem sz (pMB (fun c mem' => SR mem' ∧ ((c ↔ 0 ≤ v ∧ v ≤ 1000) ∧ mem' = (if 0 ≤ v ∧ v ≤ 1000 then set2 mem 35 46 v else mem))) kd ln sz) := by
  refine MT_of hG (by decide +kernel) (Nat.le_of_ble_eq_true rfl) (fun z hF hr hn => ?_)
  refine jblk hF [(.iload_n 1, 1), (.iconst 0, 1), (.sipush 1000, 3)] (by decide +kernel) (pc' := 5) (lo' := [(0, (2, 35)), (1, (0, v))]) (st' := [(0, 1000), (0, 0), (0, v)]) rfl ?_
  refine jcallS hF (c_X12_in hG v 0 1000 (by omega) (by decide) (by decide)) MW_X12_in wd_1743 wd_1744 (by decide +kernel) [] rfl rfl (by decide) (Nat.le_of_ble_eq_true rfl) (by decide) (kB (fun h_1 => ?_) (fun h_1 => ?_))
  · refine jif_ne hF (off := 5) 13 (by decide +kernel) (by decide) (by decide) (fun _ => ?_) (fun h => absurd h (by decide))
    refine jblk hF [(.aload_n 0, 1), (.iload_n 1, 1)] (by decide +kernel) (pc' := 15) (lo' := [(0, (2, 35)), (1, (0, v))]) (st' := [(0, v), (2, 35)]) rfl ?_
    refine jput hF 13 46 0 46 rfl (by decide) (by decide) rfl wd_1509 (by decide +kernel) rfl (Or.inl rfl) (by exact hS.k35) (fun h => by cases h) ?_
    refine jblk hF [(.iconst 1, 1)] (by decide +kernel) (pc' := 19) (lo' := [(0, (2, 35)), (1, (0, v))]) (st' := [(0, 1)]) rfl ?_
    refine jzret hF hr (by omega) (by decide +kernel) ?_
    exact lMB1 ⟨(SR.s hR (Or.inr (by decide))), by first | exact ⟨⟨fun h => h.elim, fun h => absurd h (by omega)⟩, (if_neg (by omega)).symm⟩ | exact ⟨⟨fun _ => by omega, fun _ => trivial⟩, (if_pos (by omega)).symm⟩⟩
  · refine jif_ne hF (off := 5) 13 (by decide +kernel) (by decide) (by decide) (fun h => absurd h (by decide)) (fun _ => ?_)
    refine jblk hF [(.iconst 0, 1)] (by decide +kernel) (pc' := 12) (lo' := [(0, (2, 35)), (1, (0, v))]) (st' := [(0, 0)]) rfl ?_
    refine jzret hF hr (by omega) (by decide +kernel) ?_
    exact lMB0 ⟨hR, by first | exact ⟨⟨fun h => h.elim, fun h => absurd h (by omega)⟩, (if_neg (by omega)).symm⟩ | exact ⟨⟨fun _ => by omega, fun _ => trivial⟩, (if_pos (by omega)).symm⟩⟩
set_option maxHeartbeats 4000000 in
set_option maxRecDepth 100000 in
theorem c_X12_safe {l : Launch} {g : GP} (hG : GH g) {kd : Int → Nat} {ln : Int → Int} {mem : Int → Int → Int} {sz : Nat} (hS : SK kd ln) (hR : SR mem) (p n : Int) (h_p : InI p) (h_n : InI n) (hPS : PGS mem) (h46 : 0 ≤ mem 35 46 ∧ mem 35 46 ≤ 1000) : MT l g yX12_safe cX12_safe 7 (some .int) 7 0 0 [(2, 35), (0, p), (0, n)] kd ln mem sz (pMR 0 (fun v mem' => SR mem' ∧ (v = safeA mem p n ∧ FR mem mem')) kd ln sz) := by
  refine MT_of hG (by decide +kernel) (Nat.le_of_ble_eq_true rfl) (fun z hF hr hn => ?_)
  refine jblk hF [(.aload_n 0, 1), (.iload_n 1, 1), (.iload_n 2, 1)] (by decide +kernel) (pc' := 3) (lo' := [(0, (2, 35)), (1, (0, p)), (2, (0, n))]) (st' := [(0, n), (0, p), (2, 35)]) rfl ?_
  refine jcallV hF (c_X12_isLine hG hS hR p n (by omega) (by omega) (by exact hPS)) MW_X12_isLine 13 (by decide) (by exact hS.k35) wd_1954 wd_1956 wd_p76 (by decide +kernel) [] rfl rfl (by decide) (Nat.le_of_ble_eq_true rfl) (by decide) (kB (fun h_1 => ?_) (fun h_1 => ?_))
  · refine jif_ne hF (off := 5) 11 (by decide +kernel) (by decide) (by decide) (fun _ => ?_) (fun h => absurd h (by decide))
    have hp := hPS.2.2 p (by omega) (by omega)
    refine jblk hF [(.aload_n 0, 1)] (by decide +kernel) (pc' := 12) (lo' := [(0, (2, 35)), (1, (0, p)), (2, (0, n))]) (st' := [(2, 35)]) rfl ?_
    refine jget hF 13 26 2 26 rfl (by decide) (by decide) rfl wd_1489 (by decide +kernel) (by exact hS.k35) ?_
    rw [SR.r26 hR]
    refine jblk hF [(.iload_n 1, 1)] (by decide +kernel) (pc' := 16) (lo' := [(0, (2, 35)), (1, (0, p)), (2, (0, n))]) (st' := [(0, p), (2, 51)]) rfl ?_
    refine jiald hF (by decide +kernel) (by exact hS.k51) (by omega) (by have := hS.l51; omega) ?_
    refine jif_ne hF (off := 18) 35 (by decide +kernel) (by decide) (by omega) (fun h_3 => ?_) (fun h_3 => ?_)
    · refine jblk hF [(.aload_n 0, 1)] (by decide +kernel) (pc' := 36) (lo' := [(0, (2, 35)), (1, (0, p)), (2, (0, n))]) (st' := [(2, 35)]) rfl ?_
      refine jget hF 13 26 2 26 rfl (by decide) (by decide) rfl wd_1489 (by decide +kernel) (by exact hS.k35) ?_
      rw [SR.r26 hR]
      refine jblk hF [(.iload_n 1, 1)] (by decide +kernel) (pc' := 40) (lo' := [(0, (2, 35)), (1, (0, p)), (2, (0, n))]) (st' := [(0, p), (2, 51)]) rfl ?_
      refine jiald hF (by decide +kernel) (by exact hS.k51) (by omega) (by have := hS.l51; omega) ?_
      refine jcallS hF (c_X12_ten hG (mem 51 p) (by omega)) MW_X12_ten wd_1774 wd_1775 (by decide +kernel) [] rfl rfl (by decide) (Nat.le_of_ble_eq_true rfl) (by decide) (kV ?_)
      refine jblk hF [(.lstore_n 3, 1)] (by decide +kernel) (pc' := 45) (lo' := [(3, (1, 10 ^ (mem 51 p).toNat)), (0, (2, 35)), (1, (0, p)), (2, (0, n))]) (st' := []) rfl ?_
      have ht := ten6 (p := mem 51 p) (by omega)
      refine jblk hF [(.aload_n 0, 1), (.iload_n 1, 1), (.iload_n 2, 1)] (by decide +kernel) (pc' := 48) (lo' := [(3, (1, 10 ^ (mem 51 p).toNat)), (0, (2, 35)), (1, (0, p)), (2, (0, n))]) (st' := [(0, n), (0, p), (2, 35)]) rfl ?_
      refine jcallV hF (c_X12_trueNumber hG hS hR p n (by first | omega | exact hE.fPG hp | exact (EQ36.f _ _).fPG hp) (by first | omega | (have e9 := (EQ36.f 1 0 : EQ36 mem _).at 47 (by decide); rw [e9]; omega))) MW_X12_trueNumber 13 (by decide) (by exact hS.k35) wd_1980 wd_1982 wd_p79 (by decide +kernel) [] rfl rfl (by decide) (Nat.le_of_ble_eq_true rfl) (by decide) (kMR (fun v_6 m_4 h_5 => ?_))
      obtain ⟨hR_m_4, h_5⟩ := h_5
      have hK := h_5
      have hE : EQ36 mem m_4 := hK.2.e
      have hq := emod_bd2 (wL v_6) (10 ^ (mem 51 p).toNat) (by omega)
      have e35 : m_4 35 46 = mem 35 46 := hK.2 35 46 (by decide) (by decide) (by decide) (by decide)
      refine jblk hF [(.lload_n 3, 1)] (by decide +kernel) (pc' := 52) (lo' := [(3, (1, 10 ^ (mem 51 p).toNat)), (0, (2, 35)), (1, (0, p)), (2, (0, n))]) (st' := [(1, 10 ^ (mem 51 p).toNat), (1, v_6)]) rfl ?_
      refine jwL1 ?_
      refine jcallS hF (c_J9_floorMod_f86c9 hG (wL v_6) (10 ^ (mem 51 p).toNat) (by exact wL_in _) (by omega)) MW_J9_floorMod_f86c9 wd_2066 wd_547 (by decide +kernel) [] rfl rfl (by decide) (Nat.le_of_ble_eq_true rfl) (by decide) (kV ?_)
      refine jblk hF [(.lload_n 3, 1)] (by decide +kernel) (pc' := 56) (lo' := [(3, (1, 10 ^ (mem 51 p).toNat)), (0, (2, 35)), (1, (0, p)), (2, (0, n))]) (st' := [(1, 10 ^ (mem 51 p).toNat), (1, (wL v_6) % (10 ^ (mem 51 p).toNat))]) rfl ?_
      refine jldc2 hF 2 (cst_l wd_1782 (by decide)) (by decide +kernel) ?_
      refine jldivN hF (by decide +kernel) (by omega) (by omega) ?_
      refine jblk hF [(.lsub, 1)] (by decide +kernel) (pc' := 61) (lo' := [(3, (1, 10 ^ (mem 51 p).toNat)), (0, (2, 35)), (1, (0, p)), (2, (0, n))]) (st' := [(1, ((wL v_6) % (10 ^ (mem 51 p).toNat)) - ((10 ^ (mem 51 p).toNat) / 2))]) rfl ?_
      refine jcallS hF (c_absW hG (((wL v_6) % (10 ^ (mem 51 p).toNat)) - ((10 ^ (mem 51 p).toNat) / 2)) (by first | exact wL_in _ | omega)) MW_J9_abs_067f4 wd_2067 wd_979 (by decide +kernel) [] rfl rfl (by decide) (Nat.le_of_ble_eq_true rfl) (by decide) (kV ?_)
      have hf_7 := absV_bd ((((wL v_6) % (10 ^ (mem 51 p).toNat)) - ((10 ^ (mem 51 p).toNat) / 2)))
      refine jblk hF [(.lstore 5, 2), (.lload 5, 2), (.aload_n 0, 1), (.iload_n 1, 1), (.iload_n 2, 1)] (by decide +kernel) (pc' := 71) (lo' := [(5, (1, absV (((wL v_6) % (10 ^ (mem 51 p).toNat)) - ((10 ^ (mem 51 p).toNat) / 2)))), (3, (1, 10 ^ (mem 51 p).toNat)), (0, (2, 35)), (1, (0, p)), (2, (0, n))]) (st' := [(0, n), (0, p), (2, 35), (1, absV (((wL v_6) % (10 ^ (mem 51 p).toNat)) - ((10 ^ (mem 51 p).toNat) / 2)))]) rfl ?_
      refine jcallV hF (c_X12_boundOf hG hS hR_m_4 p n (by first | omega | exact hE.fPG hp | exact (EQ36.f _ _).fPG hp) (by omega)) MW_X12_boundOf 13 (by decide) (by exact hS.k35) wd_2051 wd_2053 wd_p90 (by decide +kernel) [(1, absV (((wL v_6) % (10 ^ (mem 51 p).toNat)) - ((10 ^ (mem 51 p).toNat) / 2)))] rfl rfl (by decide) (Nat.le_of_ble_eq_true rfl) (by decide) (kV ?_)
      have hb := boundV_bd hp (n := n) (by omega) (by omega)
      rw [hE.fboundV]
      refine jblk hF [(.aload_n 0, 1)] (by decide +kernel) (pc' := 75) (lo' := [(5, (1, absV (((wL v_6) % (10 ^ (mem 51 p).toNat)) - ((10 ^ (mem 51 p).toNat) / 2)))), (3, (1, 10 ^ (mem 51 p).toNat)), (0, (2, 35)), (1, (0, p)), (2, (0, n))]) (st' := [(2, 35), (1, boundV mem p n), (1, absV (((wL v_6) % (10 ^ (mem 51 p).toNat)) - ((10 ^ (mem 51 p).toNat) / 2)))]) rfl ?_
      refine jget hF 13 46 0 46 rfl (by decide) (by decide) rfl wd_1509 (by decide +kernel) (by exact hS.k35) ?_
      refine ji2l hF (by decide +kernel) (by omega) ?_
      refine jblk hF [(.ladd, 1)] (by decide +kernel) (pc' := 80) (lo' := [(5, (1, absV (((wL v_6) % (10 ^ (mem 51 p).toNat)) - ((10 ^ (mem 51 p).toNat) / 2)))), (3, (1, 10 ^ (mem 51 p).toNat)), (0, (2, 35)), (1, (0, p)), (2, (0, n))]) (st' := [(1, (boundV mem p n) + (m_4 35 46)), (1, absV (((wL v_6) % (10 ^ (mem 51 p).toNat)) - ((10 ^ (mem 51 p).toNat) / 2)))]) rfl ?_
      refine jlcmp_lt hF (off := 7) 88 (by decide +kernel) (by decide +kernel) (by decide) (by omega) (by omega) (fun h_8 => ?_) (fun h_8 => ?_)
      · refine jblk hF [(.iconst 0, 1)] (by decide +kernel) (pc' := 89) (lo' := [(5, (1, absV (((wL v_6) % (10 ^ (mem 51 p).toNat)) - ((10 ^ (mem 51 p).toNat) / 2)))), (3, (1, 10 ^ (mem 51 p).toNat)), (0, (2, 35)), (1, (0, p)), (2, (0, n))]) (st' := [(0, 0)]) rfl ?_
        refine jiret hF hr (by decide +kernel) ?_
        exact lMR ⟨hR_m_4, by first | exact ⟨by unfold safeA; (repeat' split) <;> first | rfl | omega, FR.rf⟩ | exact ⟨by unfold safeA; rw [← hK.1]; unfold absV at *; (repeat' split) <;> first | rfl | omega, hK.2⟩⟩
      · refine jblk hF [(.iconst 1, 1)] (by decide +kernel) (pc' := 85) (lo' := [(5, (1, absV (((wL v_6) % (10 ^ (mem 51 p).toNat)) - ((10 ^ (mem 51 p).toNat) / 2)))), (3, (1, 10 ^ (mem 51 p).toNat)), (0, (2, 35)), (1, (0, p)), (2, (0, n))]) (st' := [(0, 1)]) rfl ?_
        refine jgoto hF (off := 4) 89 (by decide +kernel) (by decide) ?_
        refine jiret hF hr (by decide +kernel) ?_
        exact lMR ⟨hR_m_4, by first | exact ⟨by unfold safeA; (repeat' split) <;> first | rfl | omega, FR.rf⟩ | exact ⟨by unfold safeA; rw [← hK.1]; unfold absV at *; (repeat' split) <;> first | rfl | omega, hK.2⟩⟩
    · have hq := emod_bd n (mem 52 p) (by omega) (by omega)
      refine jblk hF [(.aload_n 0, 1), (.iload_n 1, 1), (.iload_n 2, 1)] (by decide +kernel) (pc' := 23) (lo' := [(0, (2, 35)), (1, (0, p)), (2, (0, n))]) (st' := [(0, n), (0, p), (2, 35)]) rfl ?_
      refine jcallV hF (c_X12_isMade hG hS hR p n (by first | omega | exact hE.fPG hp | exact (EQ36.f _ _).fPG hp) (by omega)) MW_X12_isMade 13 (by decide) (by exact hS.k35) wd_1942 wd_1944 wd_p74 (by decide +kernel) [] rfl rfl (by decide) (Nat.le_of_ble_eq_true rfl) (by decide) (kB (fun h_9 => ?_) (fun h_9 => ?_))
      · refine jif_eq hF (off := 7) 33 (by decide +kernel) (by decide) (by decide) (fun h => absurd h (by decide)) (fun _ => ?_)
        refine jblk hF [(.iconst 0, 1)] (by decide +kernel) (pc' := 30) (lo' := [(0, (2, 35)), (1, (0, p)), (2, (0, n))]) (st' := [(0, 0)]) rfl ?_
        refine jgoto hF (off := 4) 34 (by decide +kernel) (by decide) ?_
        refine jiret hF hr (by decide +kernel) ?_
        exact lMR ⟨hR, by first | exact ⟨by unfold safeA; (repeat' split) <;> first | rfl | omega, FR.rf⟩ | exact ⟨by unfold safeA; rw [← hK.1]; unfold absV at *; (repeat' split) <;> first | rfl | omega, hK.2⟩⟩
      · refine jif_eq hF (off := 7) 33 (by decide +kernel) (by decide) (by decide) (fun _ => ?_) (fun h => absurd h (by decide))
        refine jblk hF [(.iconst 1, 1)] (by decide +kernel) (pc' := 34) (lo' := [(0, (2, 35)), (1, (0, p)), (2, (0, n))]) (st' := [(0, 1)]) rfl ?_
        refine jiret hF hr (by decide +kernel) ?_
        exact lMR ⟨hR, by first | exact ⟨by unfold safeA; (repeat' split) <;> first | rfl | omega, FR.rf⟩ | exact ⟨by unfold safeA; rw [← hK.1]; unfold absV at *; (repeat' split) <;> first | rfl | omega, hK.2⟩⟩
  · refine jif_ne hF (off := 5) 11 (by decide +kernel) (by decide) (by decide) (fun h => absurd h (by decide)) (fun _ => ?_)
    refine jblk hF [(.iconst (-1), 1)] (by decide +kernel) (pc' := 10) (lo' := [(0, (2, 35)), (1, (0, p)), (2, (0, n))]) (st' := [(0, (-1))]) rfl ?_
    refine jiret hF hr (by decide +kernel) ?_
    exact lMR ⟨hR, by first | exact ⟨by unfold safeA; (repeat' split) <;> first | rfl | omega, FR.rf⟩ | exact ⟨by unfold safeA; rw [← hK.1]; unfold absV at *; (repeat' split) <;> first | rfl | omega, hK.2⟩⟩
set_option maxHeartbeats 4000000 in
set_option maxRecDepth 100000 in
theorem c_X12_difference {l : Launch} {g : GP} (hG : GH g) {kd : Int → Nat} {ln : Int → Int} {mem : Int → Int → Int} {sz : Nat} (hS : SK kd ln) (hR : SR mem) (n t : Int) (ht : 0 ≤ t ∧ t ≤ 5 ∧ t ≤ n ∧ n ≤ 39) : MT l g yX12_difference cX12_difference 6 (some .long) 1 0 0 [(2, 35), (0, n), (0, t)] kd ln mem sz (pV (1, difF (mem 61) n t (t + 1).toNat) kd ln mem sz) := by
  refine MT_of hG (by decide +kernel) (Nat.le_of_ble_eq_true rfl) (fun z hF hr hn => ?_)
  refine jlconst hF (n := 0) 0 rfl (by decide +kernel) ?_
  refine jblk hF [(.lstore_n 3, 1), (.iconst 0, 1), (.istore 5, 2)] (by decide +kernel) (pc' := 5) (lo' := [(5, (0, 0)), (3, (1, 0)), (0, (2, 35)), (1, (0, n)), (2, (0, t))]) (st' := []) rfl ?_
  have L_2 : ∀ (fu_3 : Nat) (v : Int) (k : Int), (0 ≤ k ∧ k ≤ t + 1) → (v = difF (mem 61) n t k.toNat) →  (t + 1 - k).toNat < fu_3 → J z g 6 0 0 (QM z g 0 0 (pV (1, difF (mem 61) n t (t + 1).toNat) kd ln mem sz)) 5 [(0, (2, 35)), (1, (0, n)), (2, (0, t)), (3, (1, v)), (5, (0, k))] [] kd ln mem sz := by
    intro fu_3
    induction fu_3 with
    | zero => intro v k _ _ hm; omega
    | succ fu_3 ih_1 =>
      intro v k hk hv hm
      refine jblk hF [(.iload 5, 2), (.iload_n 2, 1)] (by decide +kernel) (pc' := 8) (lo' := [(0, (2, 35)), (1, (0, n)), (2, (0, t)), (3, (1, v)), (5, (0, k))]) (st' := [(0, t), (0, k)]) rfl ?_
      refine jicmp_gt hF (off := 43) 51 (by decide +kernel) (by decide) (by omega) (by omega) (fun h_4 => ?_) (fun h_4 => ?_)
      · refine jblk hF [(.lload_n 3, 1)] (by decide +kernel) (pc' := 52) (lo' := [(0, (2, 35)), (1, (0, n)), (2, (0, t)), (3, (1, v)), (5, (0, k))]) (st' := [(1, v)]) rfl ?_
        refine jlret hF hr (by decide +kernel) ?_
        exact lV (by rw [hv]; congr 1; omega)
      · refine jblk hF [(.lload_n 3, 1), (.iload 5, 2), (.iconst 2, 1)] (by decide +kernel) (pc' := 15) (lo' := [(0, (2, 35)), (1, (0, n)), (2, (0, t)), (3, (1, v)), (5, (0, k))]) (st' := [(0, 2), (0, k), (1, v)]) rfl ?_
        refine jiremN hF (by decide +kernel) (by omega) (by omega) ?_
        refine jif_ne hF (off := 7) 23 (by decide +kernel) (by decide) (by omega) (fun h_5 => ?_) (fun h_5 => ?_)
        · refine jldc2 hF (-1) (cst_l wd_1793 (by decide)) (by decide +kernel) ?_
          refine jblk hF [(.iload_n 2, 1), (.iload 5, 2)] (by decide +kernel) (pc' := 29) (lo' := [(0, (2, 35)), (1, (0, n)), (2, (0, t)), (3, (1, v)), (5, (0, k))]) (st' := [(0, k), (0, t), (1, (-1)), (1, v)]) rfl ?_
          refine jcallS hF (c_X12_choose hG t k (by omega)) MW_X12_choose wd_2055 wd_2056 (by decide +kernel) [(1, (-1)), (1, v)] rfl rfl (by decide) (Nat.le_of_ble_eq_true rfl) (by decide) (kV ?_)
          have hf_6 := chN_5e (t) (k) (by omega)
          refine jblk hF [(.lmul, 1), (.aload_n 0, 1)] (by decide +kernel) (pc' := 34) (lo' := [(0, (2, 35)), (1, (0, n)), (2, (0, t)), (3, (1, v)), (5, (0, k))]) (st' := [(2, 35), (1, (-1) * (chN t k.toNat)), (1, v)]) rfl ?_
          refine jget hF 13 37 2 37 rfl (by decide) (by decide) rfl wd_1500 (by decide +kernel) (by exact hS.k35) ?_
          rw [SR.r37 hR]
          refine jblk hF [(.iload_n 1, 1), (.iload 5, 2), (.isub, 1)] (by decide +kernel) (pc' := 41) (lo' := [(0, (2, 35)), (1, (0, n)), (2, (0, t)), (3, (1, v)), (5, (0, k))]) (st' := [(0, n - k), (2, 61), (1, (-1) * (chN t k.toNat)), (1, v)]) rfl ?_
          refine jlald hF (by decide +kernel) (by exact hS.k61) (by omega) (by have := hS.l61; omega) ?_
          refine jblk hF [(.lmul, 1), (.ladd, 1), (.lstore_n 3, 1), (.iinc 5 1, 3)] (by decide +kernel) (pc' := 48) (lo' := [(5, (0, k + 1)), (3, (1, v + (((-1) * (chN t k.toNat)) * (mem 61 (n - k))))), (0, (2, 35)), (1, (0, n)), (2, (0, t))]) (st' := []) rfl ?_
          refine jgoto hF (off := (-43)) 5 (by decide +kernel) (by decide) ?_
          refine jsub [2, 3, 4, 1, 0] rfl ?_
          refine ih_1 (v + (((-1) * (chN t k.toNat)) * (mem 61 (n - k)))) (k + 1) ?_ ?_ ?_
          · omega
          · rw [show (k + 1).toNat = k.toNat + 1 by omega, difF, show ((k.toNat : Nat) : Int) = k by omega, hv]; first | rw [if_pos (by omega)] | rw [if_neg (by omega)]
          · omega
        · refine jlconst hF (n := 1) 1 rfl (by decide +kernel) ?_
          refine jgoto hF (off := 6) 26 (by decide +kernel) (by decide) ?_
          refine jblk hF [(.iload_n 2, 1), (.iload 5, 2)] (by decide +kernel) (pc' := 29) (lo' := [(0, (2, 35)), (1, (0, n)), (2, (0, t)), (3, (1, v)), (5, (0, k))]) (st' := [(0, k), (0, t), (1, 1), (1, v)]) rfl ?_
          refine jcallS hF (c_X12_choose hG t k (by omega)) MW_X12_choose wd_2055 wd_2056 (by decide +kernel) [(1, 1), (1, v)] rfl rfl (by decide) (Nat.le_of_ble_eq_true rfl) (by decide) (kV ?_)
          have hf_7 := chN_5e (t) (k) (by omega)
          refine jblk hF [(.lmul, 1), (.aload_n 0, 1)] (by decide +kernel) (pc' := 34) (lo' := [(0, (2, 35)), (1, (0, n)), (2, (0, t)), (3, (1, v)), (5, (0, k))]) (st' := [(2, 35), (1, 1 * (chN t k.toNat)), (1, v)]) rfl ?_
          refine jget hF 13 37 2 37 rfl (by decide) (by decide) rfl wd_1500 (by decide +kernel) (by exact hS.k35) ?_
          rw [SR.r37 hR]
          refine jblk hF [(.iload_n 1, 1), (.iload 5, 2), (.isub, 1)] (by decide +kernel) (pc' := 41) (lo' := [(0, (2, 35)), (1, (0, n)), (2, (0, t)), (3, (1, v)), (5, (0, k))]) (st' := [(0, n - k), (2, 61), (1, 1 * (chN t k.toNat)), (1, v)]) rfl ?_
          refine jlald hF (by decide +kernel) (by exact hS.k61) (by omega) (by have := hS.l61; omega) ?_
          refine jblk hF [(.lmul, 1), (.ladd, 1), (.lstore_n 3, 1), (.iinc 5 1, 3)] (by decide +kernel) (pc' := 48) (lo' := [(5, (0, k + 1)), (3, (1, v + ((1 * (chN t k.toNat)) * (mem 61 (n - k))))), (0, (2, 35)), (1, (0, n)), (2, (0, t))]) (st' := []) rfl ?_
          refine jgoto hF (off := (-43)) 5 (by decide +kernel) (by decide) ?_
          refine jsub [2, 3, 4, 1, 0] rfl ?_
          refine ih_1 (v + ((1 * (chN t k.toNat)) * (mem 61 (n - k)))) (k + 1) ?_ ?_ ?_
          · omega
          · rw [show (k + 1).toNat = k.toNat + 1 by omega, difF, show ((k.toNat : Nat) : Int) = k by omega, hv]; first | rw [if_pos (by omega)] | rw [if_neg (by omega)]
          · omega
  refine jsub [2, 3, 4, 1, 0] rfl ?_
  refine L_2 _ 0 0 ?_ ?_ (Nat.lt_succ_self _)
  · omega
  · rfl
set_option maxHeartbeats 4000000 in
set_option maxRecDepth 100000 in
theorem c_X12_holds {l : Launch} {g : GP} (hG : GH g) {kd : Int → Nat} {ln : Int → Int} {mem : Int → Int → Int} {sz : Nat} (hS : SK kd ln) (hR : SR mem) (p n : Int) (hp : PG mem p) (hn1 : 0 ≤ n ∧ n < mem 47 p) (hCH : CHK mem) : MT l g yX12_holds cX12_holds 10 (some .boolean) 4 0 0 [(2, 35), (0, p), (0, n)] kd ln mem sz (pB (hldV mem (mem 61) (fun k => mem 60 (5 * k + 1)) p n) kd ln mem sz) := by
  refine MT_of hG (by decide +kernel) (Nat.le_of_ble_eq_true rfl) (fun z hF hr hn => ?_)
  refine jblk hF [(.bipush 40, 2), (.iload_n 1, 1), (.imul, 1), (.iload_n 2, 1), (.iadd, 1), (.istore_n 3, 1)] (by decide +kernel) (pc' := 7) (lo' := [(3, (0, (40 * p) + n)), (0, (2, 35)), (1, (0, p)), (2, (0, n))]) (st' := []) rfl ?_
  have hc := hCH p n (by omega) (by omega) (by omega) (by omega)
  refine jblk hF [(.aload_n 0, 1)] (by decide +kernel) (pc' := 8) (lo' := [(3, (0, (40 * p) + n)), (0, (2, 35)), (1, (0, p)), (2, (0, n))]) (st' := [(2, 35)]) rfl ?_
  refine jget hF 13 24 2 24 rfl (by decide) (by decide) rfl wd_1487 (by decide +kernel) (by exact hS.k35) ?_
  rw [SR.r24 hR]
  refine jblk hF [(.iload_n 1, 1)] (by decide +kernel) (pc' := 12) (lo' := [(3, (0, (40 * p) + n)), (0, (2, 35)), (1, (0, p)), (2, (0, n))]) (st' := [(0, p), (2, 49)]) rfl ?_
  refine jiald hF (by decide +kernel) (by exact hS.k49) (by omega) (by have := hS.l49; omega) ?_
  refine jblk hF [(.istore 4, 2), (.aload_n 0, 1), (.iload_n 1, 1), (.iload_n 2, 1)] (by decide +kernel) (pc' := 18) (lo' := [(4, (0, mem 49 p)), (3, (0, (40 * p) + n)), (0, (2, 35)), (1, (0, p)), (2, (0, n))]) (st' := [(0, n), (0, p), (2, 35)]) rfl ?_
  refine jcallV hF (c_X12_placeOf hG hS hR p n (by first | omega | exact hE.fPG hp | exact (EQ36.f _ _).fPG hp) (by omega)) MW_X12_placeOf 13 (by decide) (by exact hS.k35) wd_1946 wd_1948 wd_p75 (by decide +kernel) [] rfl rfl (by decide) (Nat.le_of_ble_eq_true rfl) (by decide) (kV ?_)
  have hf_1 := emod_bd (n) (mem 52 p) (by omega) (by omega)
  refine jblk hF [(.istore 5, 2)] (by decide +kernel) (pc' := 23) (lo' := [(5, (0, n % mem 52 p)), (4, (0, mem 49 p)), (3, (0, (40 * p) + n)), (0, (2, 35)), (1, (0, p)), (2, (0, n))]) (st' := []) rfl ?_
  have hq := emod_bd n (mem 52 p) (by omega) (by omega)
  refine jblk hF [(.aload_n 0, 1)] (by decide +kernel) (pc' := 24) (lo' := [(5, (0, n % mem 52 p)), (4, (0, mem 49 p)), (3, (0, (40 * p) + n)), (0, (2, 35)), (1, (0, p)), (2, (0, n))]) (st' := [(2, 35)]) rfl ?_
  refine jget hF 13 31 2 31 rfl (by decide) (by decide) rfl wd_1494 (by decide +kernel) (by exact hS.k35) ?_
  rw [SR.r31 hR]
  refine jblk hF [(.iload_n 3, 1)] (by decide +kernel) (pc' := 28) (lo' := [(5, (0, n % mem 52 p)), (4, (0, mem 49 p)), (3, (0, (40 * p) + n)), (0, (2, 35)), (1, (0, p)), (2, (0, n))]) (st' := [(0, (40 * p) + n), (2, 56)]) rfl ?_
  refine jiald hF (by decide +kernel) (by exact hS.k56) (by omega) (by have := hS.l56; omega) ?_
  refine jblk hF [(.iconst 1, 1)] (by decide +kernel) (pc' := 30) (lo' := [(5, (0, n % mem 52 p)), (4, (0, mem 49 p)), (3, (0, (40 * p) + n)), (0, (2, 35)), (1, (0, p)), (2, (0, n))]) (st' := [(0, 1), (0, mem 56 ((40 * p) + n))]) rfl ?_
  refine jicmp_ne hF (off := 101) 131 (by decide +kernel) (by decide) (by omega) (by decide) (fun h_2 => ?_) (fun h_2 => ?_)
  · refine jblk hF [(.aload_n 0, 1)] (by decide +kernel) (pc' := 132) (lo' := [(5, (0, n % mem 52 p)), (4, (0, mem 49 p)), (3, (0, (40 * p) + n)), (0, (2, 35)), (1, (0, p)), (2, (0, n))]) (st' := [(2, 35)]) rfl ?_
    refine jget hF 13 31 2 31 rfl (by decide) (by decide) rfl wd_1494 (by decide +kernel) (by exact hS.k35) ?_
    rw [SR.r31 hR]
    refine jblk hF [(.iload_n 3, 1)] (by decide +kernel) (pc' := 136) (lo' := [(5, (0, n % mem 52 p)), (4, (0, mem 49 p)), (3, (0, (40 * p) + n)), (0, (2, 35)), (1, (0, p)), (2, (0, n))]) (st' := [(0, (40 * p) + n), (2, 56)]) rfl ?_
    refine jiald hF (by decide +kernel) (by exact hS.k56) (by omega) (by have := hS.l56; omega) ?_
    refine jblk hF [(.iconst 2, 1)] (by decide +kernel) (pc' := 138) (lo' := [(5, (0, n % mem 52 p)), (4, (0, mem 49 p)), (3, (0, (40 * p) + n)), (0, (2, 35)), (1, (0, p)), (2, (0, n))]) (st' := [(0, 2), (0, mem 56 ((40 * p) + n))]) rfl ?_
    refine jicmp_ne hF (off := 30) 168 (by decide +kernel) (by decide) (by omega) (by decide) (fun h_3 => ?_) (fun h_3 => ?_)
    · refine jblk hF [(.aload_n 0, 1)] (by decide +kernel) (pc' := 169) (lo' := [(5, (0, n % mem 52 p)), (4, (0, mem 49 p)), (3, (0, (40 * p) + n)), (0, (2, 35)), (1, (0, p)), (2, (0, n))]) (st' := [(2, 35)]) rfl ?_
      refine jget hF 13 31 2 31 rfl (by decide) (by decide) rfl wd_1494 (by decide +kernel) (by exact hS.k35) ?_
      rw [SR.r31 hR]
      refine jblk hF [(.iload_n 3, 1)] (by decide +kernel) (pc' := 173) (lo' := [(5, (0, n % mem 52 p)), (4, (0, mem 49 p)), (3, (0, (40 * p) + n)), (0, (2, 35)), (1, (0, p)), (2, (0, n))]) (st' := [(0, (40 * p) + n), (2, 56)]) rfl ?_
      refine jiald hF (by decide +kernel) (by exact hS.k56) (by omega) (by have := hS.l56; omega) ?_
      refine jif_eq hF (off := 30) 204 (by decide +kernel) (by decide) (by omega) (fun h_4 => ?_) (fun h_4 => ?_)
      · refine jblk hF [(.iconst 1, 1)] (by decide +kernel) (pc' := 205) (lo' := [(5, (0, n % mem 52 p)), (4, (0, mem 49 p)), (3, (0, (40 * p) + n)), (0, (2, 35)), (1, (0, p)), (2, (0, n))]) (st' := [(0, 1)]) rfl ?_
        refine jgoto hF (off := 4) 209 (by decide +kernel) (by decide) ?_
        refine jzret hF hr (by omega) (by decide +kernel) ?_
        exact lB1 (by unfold hldV; rw [if_neg (by omega), if_neg (by omega)]; omega)
      · refine jblk hF [(.aload_n 0, 1)] (by decide +kernel) (pc' := 178) (lo' := [(5, (0, n % mem 52 p)), (4, (0, mem 49 p)), (3, (0, (40 * p) + n)), (0, (2, 35)), (1, (0, p)), (2, (0, n))]) (st' := [(2, 35)]) rfl ?_
        refine jget hF 13 37 2 37 rfl (by decide) (by decide) rfl wd_1500 (by decide +kernel) (by exact hS.k35) ?_
        rw [SR.r37 hR]
        refine jblk hF [(.iload_n 2, 1)] (by decide +kernel) (pc' := 182) (lo' := [(5, (0, n % mem 52 p)), (4, (0, mem 49 p)), (3, (0, (40 * p) + n)), (0, (2, 35)), (1, (0, p)), (2, (0, n))]) (st' := [(0, n), (2, 61)]) rfl ?_
        refine jlald hF (by decide +kernel) (by exact hS.k61) (by omega) (by have := hS.l61; omega) ?_
        refine jblk hF [(.aload_n 0, 1), (.iload_n 1, 1), (.iload_n 2, 1)] (by decide +kernel) (pc' := 186) (lo' := [(5, (0, n % mem 52 p)), (4, (0, mem 49 p)), (3, (0, (40 * p) + n)), (0, (2, 35)), (1, (0, p)), (2, (0, n))]) (st' := [(0, n), (0, p), (2, 35), (1, mem 61 n)]) rfl ?_
        refine jcallV hF (c_X12_nearestAt hG hS hR p n (by first | omega | exact hE.fPG hp | exact (EQ36.f _ _).fPG hp) (by first | omega | (rw [hE.at 47 (by decide)]; omega) | (rw [(EQ36.f 1 0 : EQ36 mem _).at 47 (by decide)]; omega))) MW_X12_nearestAt 13 (by decide) (by exact hS.k35) wd_2043 wd_2045 wd_p89 (by decide +kernel) [(1, mem 61 n)] rfl rfl (by decide) (Nat.le_of_ble_eq_true rfl) (by decide) (kV ?_)
        refine jblk hF [(.lsub, 1)] (by decide +kernel) (pc' := 190) (lo' := [(5, (0, n % mem 52 p)), (4, (0, mem 49 p)), (3, (0, (40 * p) + n)), (0, (2, 35)), (1, (0, p)), (2, (0, n))]) (st' := [(1, (mem 61 n) - (nearP mem p n))]) rfl ?_
        refine jwL0 ?_
        refine jcallS hF (c_absW hG (wL ((mem 61 n) - (nearP mem p n))) (by first | exact wL_in _ | omega)) MW_J9_abs_067f4 wd_2067 wd_979 (by decide +kernel) [] rfl rfl (by decide) (Nat.le_of_ble_eq_true rfl) (by decide) (kV ?_)
        have hf_5 := absV_bd ((wL ((mem 61 n) - (nearP mem p n))))
        refine jblk hF [(.aload_n 0, 1)] (by decide +kernel) (pc' := 194) (lo' := [(5, (0, n % mem 52 p)), (4, (0, mem 49 p)), (3, (0, (40 * p) + n)), (0, (2, 35)), (1, (0, p)), (2, (0, n))]) (st' := [(2, 35), (1, absV (wL ((mem 61 n) - (nearP mem p n))))]) rfl ?_
        refine jget hF 13 32 2 32 rfl (by decide) (by decide) rfl wd_1495 (by decide +kernel) (by exact hS.k35) ?_
        rw [SR.r32 hR]
        refine jblk hF [(.iload_n 3, 1)] (by decide +kernel) (pc' := 198) (lo' := [(5, (0, n % mem 52 p)), (4, (0, mem 49 p)), (3, (0, (40 * p) + n)), (0, (2, 35)), (1, (0, p)), (2, (0, n))]) (st' := [(0, (40 * p) + n), (2, 57), (1, absV (wL ((mem 61 n) - (nearP mem p n))))]) rfl ?_
        refine jiald hF (by decide +kernel) (by exact hS.k57) (by omega) (by have := hS.l57; omega) ?_
        refine ji2l hF (by decide +kernel) (by omega) ?_
        refine jlcmpW_gt hF (off := 7) 208 (by decide +kernel) (by decide +kernel) (by decide) (fun h_6 => ?_) (fun h_6 => ?_)
        · refine jblk hF [(.iconst 0, 1)] (by decide +kernel) (pc' := 209) (lo' := [(5, (0, n % mem 52 p)), (4, (0, mem 49 p)), (3, (0, (40 * p) + n)), (0, (2, 35)), (1, (0, p)), (2, (0, n))]) (st' := [(0, 0)]) rfl ?_
          refine jzret hF hr (by omega) (by decide +kernel) ?_
          exact lB0 (by unfold hldV; rw [if_neg (by omega), if_neg (by omega)]; omega)
        · refine jblk hF [(.iconst 1, 1)] (by decide +kernel) (pc' := 205) (lo' := [(5, (0, n % mem 52 p)), (4, (0, mem 49 p)), (3, (0, (40 * p) + n)), (0, (2, 35)), (1, (0, p)), (2, (0, n))]) (st' := [(0, 1)]) rfl ?_
          refine jgoto hF (off := 4) 209 (by decide +kernel) (by decide) ?_
          refine jzret hF hr (by omega) (by decide +kernel) ?_
          exact lB1 (by unfold hldV; rw [if_neg (by omega), if_neg (by omega)]; omega)
    · refine jblk hF [(.iload 5, 2), (.iload 4, 2)] (by decide +kernel) (pc' := 145) (lo' := [(5, (0, n % mem 52 p)), (4, (0, mem 49 p)), (3, (0, (40 * p) + n)), (0, (2, 35)), (1, (0, p)), (2, (0, n))]) (st' := [(0, mem 49 p), (0, n % mem 52 p)]) rfl ?_
      refine jicmp_le hF (off := 17) 162 (by decide +kernel) (by decide) (by omega) (by omega) (fun h_7 => ?_) (fun h_7 => ?_)
      · refine jblk hF [(.iconst 1, 1)] (by decide +kernel) (pc' := 163) (lo' := [(5, (0, n % mem 52 p)), (4, (0, mem 49 p)), (3, (0, (40 * p) + n)), (0, (2, 35)), (1, (0, p)), (2, (0, n))]) (st' := [(0, 1)]) rfl ?_
        refine jgoto hF (off := 4) 167 (by decide +kernel) (by decide) ?_
        refine jzret hF hr (by omega) (by decide +kernel) ?_
        exact lB1 (by unfold hldV; rw [if_neg (by omega), if_pos (by omega)]; first | exact Or.inl (by omega) | exact Or.inr (by assumption) | exact fun h => h.elim (fun h => by omega) (fun h => absurd h (by assumption)))
      · refine jblk hF [(.aload_n 0, 1), (.iload_n 2, 1), (.iload 4, 2), (.iconst 1, 1), (.iadd, 1)] (by decide +kernel) (pc' := 154) (lo' := [(5, (0, n % mem 52 p)), (4, (0, mem 49 p)), (3, (0, (40 * p) + n)), (0, (2, 35)), (1, (0, p)), (2, (0, n))]) (st' := [(0, (mem 49 p) + 1), (0, n), (2, 35)]) rfl ?_
        refine jcallV hF (c_X12_difference hG hS hR n ((mem 49 p) + 1) (by omega)) MW_X12_difference 13 (by decide) (by exact hS.k35) wd_2076 wd_2078 wd_p92 (by decide +kernel) [] rfl rfl (by decide) (Nat.le_of_ble_eq_true rfl) (by decide) (kV ?_)
        refine jlconst hF (n := 0) 0 rfl (by decide +kernel) ?_
        refine jlcmpW_ne hF (off := 7) 166 (by decide +kernel) (by decide +kernel) (by decide) (fun h_8 => ?_) (fun h_8 => ?_)
        · refine jblk hF [(.iconst 0, 1)] (by decide +kernel) (pc' := 167) (lo' := [(5, (0, n % mem 52 p)), (4, (0, mem 49 p)), (3, (0, (40 * p) + n)), (0, (2, 35)), (1, (0, p)), (2, (0, n))]) (st' := [(0, 0)]) rfl ?_
          refine jzret hF hr (by omega) (by decide +kernel) ?_
          exact lB0 (by unfold hldV; rw [if_neg (by omega), if_pos (by omega)]; first | exact Or.inl (by omega) | exact Or.inr (by assumption) | exact fun h => h.elim (fun h => by omega) (fun h => absurd h (by assumption)))
        · refine jblk hF [(.iconst 1, 1)] (by decide +kernel) (pc' := 163) (lo' := [(5, (0, n % mem 52 p)), (4, (0, mem 49 p)), (3, (0, (40 * p) + n)), (0, (2, 35)), (1, (0, p)), (2, (0, n))]) (st' := [(0, 1)]) rfl ?_
          refine jgoto hF (off := 4) 167 (by decide +kernel) (by decide) ?_
          refine jzret hF hr (by omega) (by decide +kernel) ?_
          exact lB1 (by unfold hldV; rw [if_neg (by omega), if_pos (by omega)]; first | exact Or.inl (by omega) | exact Or.inr (by assumption) | exact fun h => h.elim (fun h => by omega) (fun h => absurd h (by assumption)))
  · refine jblk hF [(.iload 5, 2), (.iload 4, 2)] (by decide +kernel) (pc' := 37) (lo' := [(5, (0, n % mem 52 p)), (4, (0, mem 49 p)), (3, (0, (40 * p) + n)), (0, (2, 35)), (1, (0, p)), (2, (0, n))]) (st' := [(0, mem 49 p), (0, n % mem 52 p)]) rfl ?_
    refine jicmp_gt hF (off := 5) 42 (by decide +kernel) (by decide) (by omega) (by omega) (fun h_9 => ?_) (fun h_9 => ?_)
    · have hq := emod_bd n (mem 52 p) (by omega) (by omega)
      refine jblk hF [(.iload_n 2, 1), (.iload 5, 2), (.isub, 1), (.istore 6, 2), (.aload_n 0, 1)] (by decide +kernel) (pc' := 49) (lo' := [(6, (0, n - (n % mem 52 p))), (5, (0, n % mem 52 p)), (4, (0, mem 49 p)), (3, (0, (40 * p) + n)), (0, (2, 35)), (1, (0, p)), (2, (0, n))]) (st' := [(2, 35)]) rfl ?_
      refine jget hF 13 37 2 37 rfl (by decide) (by decide) rfl wd_1500 (by decide +kernel) (by exact hS.k35) ?_
      rw [SR.r37 hR]
      refine jblk hF [(.iload 6, 2), (.iload 4, 2), (.iadd, 1)] (by decide +kernel) (pc' := 57) (lo' := [(6, (0, n - (n % mem 52 p))), (5, (0, n % mem 52 p)), (4, (0, mem 49 p)), (3, (0, (40 * p) + n)), (0, (2, 35)), (1, (0, p)), (2, (0, n))]) (st' := [(0, (n - (n % mem 52 p)) + (mem 49 p)), (2, 61)]) rfl ?_
      refine jlald hF (by decide +kernel) (by exact hS.k61) (by omega) (by have := hS.l61; omega) ?_
      refine jblk hF [(.aload_n 0, 1)] (by decide +kernel) (pc' := 59) (lo' := [(6, (0, n - (n % mem 52 p))), (5, (0, n % mem 52 p)), (4, (0, mem 49 p)), (3, (0, (40 * p) + n)), (0, (2, 35)), (1, (0, p)), (2, (0, n))]) (st' := [(2, 35), (1, mem 61 ((n - (n % mem 52 p)) + (mem 49 p)))]) rfl ?_
      refine jget hF 13 37 2 37 rfl (by decide) (by decide) rfl wd_1500 (by decide +kernel) (by exact hS.k35) ?_
      rw [SR.r37 hR]
      refine jblk hF [(.iload 6, 2)] (by decide +kernel) (pc' := 64) (lo' := [(6, (0, n - (n % mem 52 p))), (5, (0, n % mem 52 p)), (4, (0, mem 49 p)), (3, (0, (40 * p) + n)), (0, (2, 35)), (1, (0, p)), (2, (0, n))]) (st' := [(0, n - (n % mem 52 p)), (2, 61), (1, mem 61 ((n - (n % mem 52 p)) + (mem 49 p)))]) rfl ?_
      refine jlald hF (by decide +kernel) (by exact hS.k61) (by omega) (by have := hS.l61; omega) ?_
      refine jblk hF [(.lsub, 1), (.lstore 7, 2), (.iload 6, 2), (.iload 4, 2), (.iadd, 1), (.iconst 1, 1), (.iadd, 1), (.istore 9, 2)] (by decide +kernel) (pc' := 77) (lo' := [(9, (0, ((n - (n % mem 52 p)) + (mem 49 p)) + 1)), (7, (1, (mem 61 ((n - (n % mem 52 p)) + (mem 49 p))) - (mem 61 (n - (n % mem 52 p))))), (6, (0, n - (n % mem 52 p))), (5, (0, n % mem 52 p)), (4, (0, mem 49 p)), (3, (0, (40 * p) + n)), (0, (2, 35)), (1, (0, p)), (2, (0, n))]) (st' := []) rfl ?_
      have L_11 : ∀ (fu_12 : Nat) (a : Int) (k : Int), (n - n % mem 52 p + mem 49 p + 1 ≤ k ∧ k ≤ n + 1) → (a = mem 61 (n - n % mem 52 p + mem 49 p) - mem 61 (n - n % mem 52 p) + sumC (fun k => mem 60 (5 * k + 1)) (n - n % mem 52 p + mem 49 p + 1) (k - (n - n % mem 52 p + mem 49 p + 1)).toNat) →  (n + 1 - k).toNat < fu_12 → J z g 10 0 0 (QM z g 0 0 (pB (hldV mem (mem 61) (fun k => mem 60 (5 * k + 1)) p n) kd ln mem sz)) 77 [(0, (2, 35)), (1, (0, p)), (2, (0, n)), (3, (0, (40 * p) + n)), (4, (0, mem 49 p)), (5, (0, n % mem 52 p)), (6, (0, n - (n % mem 52 p))), (7, (1, a)), (9, (0, k))] [] kd ln mem sz := by
        intro fu_12
        induction fu_12 with
        | zero => intro a k _ _ hm; omega
        | succ fu_12 ih_10 =>
          intro a k hk ha hm
          refine jblk hF [(.iload 9, 2), (.iload_n 2, 1)] (by decide +kernel) (pc' := 80) (lo' := [(0, (2, 35)), (1, (0, p)), (2, (0, n)), (3, (0, (40 * p) + n)), (4, (0, mem 49 p)), (5, (0, n % mem 52 p)), (6, (0, n - (n % mem 52 p))), (7, (1, a)), (9, (0, k))]) (st' := [(0, n), (0, k)]) rfl ?_
          refine jicmp_gt hF (off := 25) 105 (by decide +kernel) (by decide) (by omega) (by omega) (fun h_13 => ?_) (fun h_13 => ?_)
          · refine jblk hF [(.aload_n 0, 1)] (by decide +kernel) (pc' := 106) (lo' := [(0, (2, 35)), (1, (0, p)), (2, (0, n)), (3, (0, (40 * p) + n)), (4, (0, mem 49 p)), (5, (0, n % mem 52 p)), (6, (0, n - (n % mem 52 p))), (7, (1, a)), (9, (0, k))]) (st' := [(2, 35)]) rfl ?_
            refine jget hF 13 37 2 37 rfl (by decide) (by decide) rfl wd_1500 (by decide +kernel) (by exact hS.k35) ?_
            rw [SR.r37 hR]
            refine jblk hF [(.iload_n 2, 1)] (by decide +kernel) (pc' := 110) (lo' := [(0, (2, 35)), (1, (0, p)), (2, (0, n)), (3, (0, (40 * p) + n)), (4, (0, mem 49 p)), (5, (0, n % mem 52 p)), (6, (0, n - (n % mem 52 p))), (7, (1, a)), (9, (0, k))]) (st' := [(0, n), (2, 61)]) rfl ?_
            refine jlald hF (by decide +kernel) (by exact hS.k61) (by omega) (by have := hS.l61; omega) ?_
            refine jblk hF [(.aload_n 0, 1)] (by decide +kernel) (pc' := 112) (lo' := [(0, (2, 35)), (1, (0, p)), (2, (0, n)), (3, (0, (40 * p) + n)), (4, (0, mem 49 p)), (5, (0, n % mem 52 p)), (6, (0, n - (n % mem 52 p))), (7, (1, a)), (9, (0, k))]) (st' := [(2, 35), (1, mem 61 n)]) rfl ?_
            refine jget hF 13 37 2 37 rfl (by decide) (by decide) rfl wd_1500 (by decide +kernel) (by exact hS.k35) ?_
            rw [SR.r37 hR]
            refine jblk hF [(.iload 6, 2)] (by decide +kernel) (pc' := 117) (lo' := [(0, (2, 35)), (1, (0, p)), (2, (0, n)), (3, (0, (40 * p) + n)), (4, (0, mem 49 p)), (5, (0, n % mem 52 p)), (6, (0, n - (n % mem 52 p))), (7, (1, a)), (9, (0, k))]) (st' := [(0, n - (n % mem 52 p)), (2, 61), (1, mem 61 n)]) rfl ?_
            refine jlald hF (by decide +kernel) (by exact hS.k61) (by omega) (by have := hS.l61; omega) ?_
            refine jblk hF [(.lsub, 1), (.lload 7, 2)] (by decide +kernel) (pc' := 121) (lo' := [(0, (2, 35)), (1, (0, p)), (2, (0, n)), (3, (0, (40 * p) + n)), (4, (0, mem 49 p)), (5, (0, n % mem 52 p)), (6, (0, n - (n % mem 52 p))), (7, (1, a)), (9, (0, k))]) (st' := [(1, a), (1, (mem 61 n) - (mem 61 (n - (n % mem 52 p))))]) rfl ?_
            refine jlcmpW_ne hF (off := 7) 129 (by decide +kernel) (by decide +kernel) (by decide) (fun h_14 => ?_) (fun h_14 => ?_)
            · refine jblk hF [(.iconst 0, 1)] (by decide +kernel) (pc' := 130) (lo' := [(0, (2, 35)), (1, (0, p)), (2, (0, n)), (3, (0, (40 * p) + n)), (4, (0, mem 49 p)), (5, (0, n % mem 52 p)), (6, (0, n - (n % mem 52 p))), (7, (1, a)), (9, (0, k))]) (st' := [(0, 0)]) rfl ?_
              refine jzret hF hr (by omega) (by decide +kernel) ?_
              exact lB0 (by rw [show (k - (n - n % mem 52 p + mem 49 p + 1)).toNat = (n % mem 52 p - mem 49 p).toNat by omega] at ha; subst ha; unfold hldV; rw [if_pos (by omega)]; first | exact Or.inr (by assumption) | exact fun h => h.elim (fun h => by omega) (fun h => absurd h (by assumption)))
            · refine jblk hF [(.iconst 1, 1)] (by decide +kernel) (pc' := 126) (lo' := [(0, (2, 35)), (1, (0, p)), (2, (0, n)), (3, (0, (40 * p) + n)), (4, (0, mem 49 p)), (5, (0, n % mem 52 p)), (6, (0, n - (n % mem 52 p))), (7, (1, a)), (9, (0, k))]) (st' := [(0, 1)]) rfl ?_
              refine jgoto hF (off := 4) 130 (by decide +kernel) (by decide) ?_
              refine jzret hF hr (by omega) (by decide +kernel) ?_
              exact lB1 (by rw [show (k - (n - n % mem 52 p + mem 49 p + 1)).toNat = (n % mem 52 p - mem 49 p).toNat by omega] at ha; subst ha; unfold hldV; rw [if_pos (by omega)]; first | exact Or.inr (by assumption) | exact fun h => h.elim (fun h => by omega) (fun h => absurd h (by assumption)))
          · refine jblk hF [(.lload 7, 2), (.aload_n 0, 1)] (by decide +kernel) (pc' := 86) (lo' := [(0, (2, 35)), (1, (0, p)), (2, (0, n)), (3, (0, (40 * p) + n)), (4, (0, mem 49 p)), (5, (0, n % mem 52 p)), (6, (0, n - (n % mem 52 p))), (7, (1, a)), (9, (0, k))]) (st' := [(2, 35), (1, a)]) rfl ?_
            refine jget hF 13 36 2 36 rfl (by decide) (by decide) rfl wd_1499 (by decide +kernel) (by exact hS.k35) ?_
            rw [SR.r36 hR]
            refine jblk hF [(.iconst 5, 1), (.iload 9, 2), (.imul, 1), (.iconst 1, 1), (.iadd, 1)] (by decide +kernel) (pc' := 95) (lo' := [(0, (2, 35)), (1, (0, p)), (2, (0, n)), (3, (0, (40 * p) + n)), (4, (0, mem 49 p)), (5, (0, n % mem 52 p)), (6, (0, n - (n % mem 52 p))), (7, (1, a)), (9, (0, k))]) (st' := [(0, (5 * k) + 1), (2, 60), (1, a)]) rfl ?_
            refine jlald hF (by decide +kernel) (by exact hS.k60) (by omega) (by have := hS.l60; omega) ?_
            refine jblk hF [(.ladd, 1), (.lstore 7, 2), (.iinc 9 1, 3)] (by decide +kernel) (pc' := 102) (lo' := [(9, (0, k + 1)), (7, (1, a + (mem 60 ((5 * k) + 1)))), (0, (2, 35)), (1, (0, p)), (2, (0, n)), (3, (0, (40 * p) + n)), (4, (0, mem 49 p)), (5, (0, n % mem 52 p)), (6, (0, n - (n % mem 52 p)))]) (st' := []) rfl ?_
            refine jgoto hF (off := (-25)) 77 (by decide +kernel) (by decide) ?_
            refine jsub [2, 3, 4, 5, 6, 7, 8, 1, 0] rfl ?_
            refine ih_10 (a + (mem 60 ((5 * k) + 1))) (k + 1) ?_ ?_ ?_
            · omega
            · rw [show (k + 1 - (n - n % mem 52 p + mem 49 p + 1)).toNat = (k - (n - n % mem 52 p + mem 49 p + 1)).toNat + 1 by omega, sumC, ha, Int.add_assoc, show n - n % mem 52 p + mem 49 p + 1 + (((k - (n - n % mem 52 p + mem 49 p + 1)).toNat : Nat) : Int) = k by omega]
            · omega
      refine jsub [6, 7, 8, 5, 4, 3, 2, 1, 0] rfl ?_
      refine L_11 _ ((mem 61 ((n - (n % mem 52 p)) + (mem 49 p))) - (mem 61 (n - (n % mem 52 p)))) (((n - (n % mem 52 p)) + (mem 49 p)) + 1) ?_ ?_ (Nat.lt_succ_self _)
      · omega
      · rw [show (n - n % mem 52 p + mem 49 p + 1 - (n - n % mem 52 p + mem 49 p + 1)).toNat = 0 by omega, sumC, Int.add_zero]
    · refine jblk hF [(.iconst 1, 1)] (by decide +kernel) (pc' := 41) (lo' := [(5, (0, n % mem 52 p)), (4, (0, mem 49 p)), (3, (0, (40 * p) + n)), (0, (2, 35)), (1, (0, p)), (2, (0, n))]) (st' := [(0, 1)]) rfl ?_
      refine jzret hF hr (by omega) (by decide +kernel) ?_
      exact lB1 (by unfold hldV; rw [if_pos (by omega)]; exact Or.inl (by omega))
end
