section
/-- the bits of the root: i is the shift, E the power above it -/
def RI (i E : Int) : Prop := ∃ k : Nat, k ≤ 31 ∧ i = 2 * (k : Int) - 2 ∧ E = ((2 ^ k : Nat) : Int)
theorem RI_0 : RI 60 2147483648 := ⟨31, by decide, by decide, by decide⟩
theorem flshl_all : ∀ k : Fin 31, flshl 1 (2 * ((k.val : Nat) : Int)) = ((2 ^ k.val : Nat) : Int) * ((2 ^ k.val : Nat) : Int) := by decide +kernel
theorem pow30 : ∀ k : Fin 31, 1 ≤ ((2 ^ k.val : Nat) : Int) ∧ ((2 ^ k.val : Nat) : Int) ≤ 1073741824 := by decide +kernel
theorem RI_end {i E : Int} (h : RI i E) (hi : i < 0) : E = 1 := by
  obtain ⟨k, h1, h2, h3⟩ := h
  have : k = 0 := by omega
  subst this
  exact h3
theorem RI_s {i E : Int} (h : RI i E) (hi : 0 ≤ i) : ∃ H : Int, flshl 1 i = H * H ∧ E = 2 * H ∧ RI (i - 2) H ∧ 1 ≤ H ∧ H ≤ 1073741824 := by
  obtain ⟨k, h1, h2, h3⟩ := h
  match k, h1, h2, h3 with
  | 0, _, h2, _ => omega
  | k + 1, h1, h2, h3 =>
    have e : i = 2 * (k : Int) := by omega
    have a := flshl_all ⟨k, by omega⟩
    have b := pow30 ⟨k, by omega⟩
    exact ⟨((2 ^ k : Nat) : Int), by rw [e]; exact a, by rw [h3, Nat.pow_succ, Int.natCast_mul]; omega, ⟨k, by omega, by omega, rfl⟩, b.1, b.2⟩
theorem RI_bd {i E : Int} (h : RI i E) : -2 ≤ i ∧ i ≤ 60 := by
  obtain ⟨k, h1, h2, h3⟩ := h
  omega
theorem flshr_1 {a : Int} (h : InL a) : flshr a 1 = a / 2 := by
  have e : ((Int32.ofInt 1).toInt64 &&& 63).toBitVec.smod 64 = 1 := by decide
  unfold flshr
  show ((Int64.ofInt a).toBitVec.sshiftRight (((Int32.ofInt 1).toInt64 &&& 63).toBitVec.smod 64).toNat).toInt = _
  rw [e, BitVec.toInt_sshiftRight]
  have h2 : (Int64.ofInt a).toBitVec.toInt = a := L_toInt h
  rw [h2, Int.shiftRight_eq_div_pow]
  rfl
/-- the facts of one step of the root -/
theorem rt_eqs (P H : Int) : P * (2 * H) = 2 * (P * H) ∧ (P + H) * (P + H) = P * P + 2 * (P * H) + H * H ∧ (P + H) * H = P * H + H * H ∧ (P + 2 * H) * (P + 2 * H) = P * P + 4 * (P * H) + 4 * (H * H) := by
  have c := Int.mul_comm H P
  have a1 : P * (2 * H) = 2 * (P * H) := Int.mul_left_comm P 2 H
  have a2 : (2 * H) * P = 2 * (H * P) := Int.mul_assoc 2 H P
  have a3 : (2 * H) * (2 * H) = 4 * (H * H) := by
    rw [Int.mul_assoc, Int.mul_left_comm H 2 H]
    omega
  refine ⟨a1, ?_, by rw [Int.add_mul], ?_⟩ <;> rw [Int.add_mul, Int.mul_add, Int.mul_add] <;> omega
/-- a function at x in the quarters of a millionth -/
def rootQ (w : Int) : Int := 2 * isq w + (if isq w * isq w = w then 0 else 1)
def divQ (t u : Int) : Int := 2 * (t / u) + (if t / u * u = t then 0 else 1)
def topV (s a b x : Int) : Int := 2 * 1000000 * (if s = 1 then 1000 * a else x * x + a * x + b)
def qV (s a b x : Int) : Int := if s = 0 then rootQ (4000000000000 * (a * x + b)) else divQ (topV s a b x) (belowV s b x)
theorem rootQ_ge {w k : Int} (hw : 0 ≤ w) (hk : 0 ≤ k) : 2 * k ≤ rootQ w ↔ k * k ≤ w := by
  have h1 := isq_le hw
  have h2 := isq_lt hw
  have h0 := isq_nonneg w
  have key : 2 * k ≤ rootQ w ↔ k ≤ isq w := by unfold rootQ; split <;> omega
  rw [key]
  constructor
  · intro h
    exact Int.le_trans (sq_mono hk h) h1
  · intro h
    have : k < isq w + 1 := sq_lt hk (by omega) (by omega)
    omega
theorem rootQ_gt {w k : Int} (hw : 0 ≤ w) (hk : 0 ≤ k) : 2 * k < rootQ w ↔ k * k < w := by
  have h1 := isq_le hw
  have h2 := isq_lt hw
  have h0 := isq_nonneg w
  constructor
  · intro h
    rcases Int.lt_or_le k (isq w) with q | q
    · have := sq_mono (a := k + 1) (b := isq w) (by omega) (by omega)
      have e : (k + 1) * (k + 1) = k * k + 2 * k + 1 := by rw [Int.add_mul, Int.mul_add]; omega
      omega
    · unfold rootQ at h
      split at h
      · omega
      · have e : k = isq w := by omega
        subst e
        omega
  · intro h
    rcases Int.lt_or_le k (isq w) with q | q
    · unfold rootQ; split <;> omega
    · have h3 : k < isq w + 1 := sq_lt hk (by omega) (by omega)
      have e : k = isq w := by omega
      subst e
      unfold rootQ
      rw [if_neg (by omega)]
      omega
theorem divQ_ge {t u k : Int} (hu : 0 < u) : 2 * k ≤ divQ t u ↔ k * u ≤ t := by
  have key : 2 * k ≤ divQ t u ↔ k ≤ t / u := by unfold divQ; split <;> omega
  rw [key]
  exact Int.le_ediv_iff_mul_le hu
theorem divQ_gt {t u k : Int} (hu : 0 < u) : 2 * k < divQ t u ↔ k * u < t := by
  have h1 := Int.le_ediv_iff_mul_le (a := k + 1) (b := t) hu
  have h2 := Int.le_ediv_iff_mul_le (a := k) (b := t) hu
  have e : (k + 1) * u = k * u + u := by rw [Int.add_mul, Int.one_mul]
  have h3 := Int.ediv_mul_le t (by omega : u ≠ 0)
  constructor
  · intro h
    unfold divQ at h
    split at h
    · have := h1.mp (by omega)
      omega
    · have h4 := h2.mp (by omega)
      rcases Int.lt_or_le (k * u) t with q | q
      · exact q
      · have e2 : k * u = t := by omega
        have h7 : t / u = k := by rw [← e2]; exact Int.mul_ediv_cancel k (by omega)
        rename_i h6
        exact absurd (by rw [h7]; exact e2) h6
  · intro h
    have h4 := h2.mpr (by omega)
    unfold divQ
    split
    · rename_i h5
      rcases Int.lt_or_le k (t / u) with q | q
      · omega
      · have : t / u = k := by omega
        rw [this] at h5
        omega
    · omega
/-- a whole number of units -/
theorem floor_of {q n m : Int} (hm : 0 < m) (h1 : m * n ≤ q) (h2 : ¬ m * (n + 1) ≤ q) : q / m = n := by
  have a1 := (Int.le_ediv_iff_mul_le (a := n) (b := q) hm).mpr (by rw [Int.mul_comm]; exact h1)
  have a2 : ¬ n + 1 ≤ q / m := fun h => h2 (by have := (Int.le_ediv_iff_mul_le (a := n + 1) (b := q) hm).mp h; rw [Int.mul_comm] at this; exact this)
  omega
theorem qV_r {s a b x d w : Int} (hs : s = 0) (hw : w = 4 * 1000000000000 * (a * x + b)) (h : (d = 0 ∧ isq w * isq w = w) ∨ (d = 1 ∧ isq w * isq w ≠ w)) : 2 * isq w + d = qV s a b x := by
  have e : w = 4000000000000 * (a * x + b) := by rw [hw]; omega
  unfold qV rootQ
  rw [if_pos hs, ← e]
  rcases h with ⟨rfl, h⟩ | ⟨rfl, h⟩
  · rw [if_pos h]
  · rw [if_neg h]
theorem qV_d {s a b x d t u : Int} (hs : s ≠ 0) (ht : t = topV s a b x) (hu : u = belowV s b x) (h : (d = 0 ∧ t / u * u = t) ∨ (d = 1 ∧ t / u * u ≠ t)) : 2 * (t / u) + d = qV s a b x := by
  unfold qV divQ
  rw [if_neg hs, ← ht, ← hu]
  rcases h with ⟨rfl, h⟩ | ⟨rfl, h⟩
  · rw [if_pos h]
  · rw [if_neg h]
theorem isq_bd2 {v : Int} (h : 0 ≤ v ∧ v < 4611686014132420609) : 0 ≤ isq v ∧ isq v ≤ 2147483646 := by
  refine ⟨isq_nonneg v, ?_⟩
  have h1 := isq_le h.1
  have : isq v < 2147483647 := sq_lt (isq_nonneg v) (by omega) (by omega)
  omega
set_option maxHeartbeats 4000000 in
set_option maxRecDepth 100000 in
theorem c_X11_rootOf {l : Launch} {g : GP} (hG : GH g) {kd : Int → Nat} {ln : Int → Int} {mem : Int → Int → Int} {sz : Nat} (a : Int) (ha : 0 ≤ a ∧ a < 4611686018427387904) : MT l g yX11_rootOf cX11_rootOf 9 (some .long) 0 0 0 [(1, a)] kd ln mem sz (pV (1, isq a) kd ln mem sz) := by
  refine MT_of hG (by decide +kernel) (Nat.le_of_ble_eq_true rfl) (fun z hF hr hn => ?_)
  refine jblk hF [(.lload_n 0, 1), (.lstore_n 2, 1)] (by decide +kernel) (pc' := 2) (lo' := [(2, (1, a)), (0, (1, a))]) (st' := []) rfl ?_
  refine jlconst hF (n := 0) 0 rfl (by decide +kernel) ?_
  refine jblk hF [(.lstore 4, 2), (.bipush 60, 2), (.istore 6, 2)] (by decide +kernel) (pc' := 9) (lo' := [(6, (0, 60)), (4, (1, 0)), (2, (1, a)), (0, (1, a))]) (st' := []) rfl ?_
  have L_2 : ∀ (fu_3 : Nat) (rest : Int) (root : Int) (i : Int) (P : Int) (E : Int), (RI i E) → (0 ≤ P ∧ rest = a - P * P ∧ 0 ≤ rest ∧ root = P * E ∧ a < (P + E) * (P + E)) →  (i + 2).toNat < fu_3 → J z g 9 0 0 (QM z g 0 0 (pV (1, isq a) kd ln mem sz)) 9 [(0, (1, a)), (2, (1, rest)), (4, (1, root)), (6, (0, i))] [] kd ln mem sz := by
    intro fu_3
    induction fu_3 with
    | zero => intro rest root i P E _ _ hm; omega
    | succ fu_3 ih_1 =>
      intro rest root i P E hRI hP hm
      have hPp := Int.mul_nonneg hP.1 hP.1
      have hB := RI_bd hRI
      have hE31 : 1 ≤ E ∧ E ≤ 2147483648 := by (rcases Int.lt_or_le i 0 with q | q; (have := RI_end hRI q; omega); (obtain ⟨H, _, h2, _⟩ := RI_s hRI q; omega))
      have hPP : P < 2147483648 := sq_lt hP.1 (by omega) (by omega)
      have hPE := mul_bd (a := P) (b := E) (M := 2147483648) (N := 2147483648) (by omega) (by omega)
      refine jblk hF [(.iload 6, 2)] (by decide +kernel) (pc' := 11) (lo' := [(0, (1, a)), (2, (1, rest)), (4, (1, root)), (6, (0, i))]) (st' := [(0, i)]) rfl ?_
      refine jif_lt hF (off := 51) 62 (by decide +kernel) (by decide) (by omega) (fun h_4 => ?_) (fun h_4 => ?_)
      · have hE1 := RI_end hRI (by omega)
        rw [hE1] at hP
        refine jblk hF [(.lload 4, 2)] (by decide +kernel) (pc' := 64) (lo' := [(0, (1, a)), (2, (1, rest)), (4, (1, root)), (6, (0, i))]) (st' := [(1, root)]) rfl ?_
        refine jlret hF hr (by decide +kernel) ?_
        exact lV (by (rw [hP.2.2.2.1, Int.mul_one]; exact (isq_uniq hP.1 (by omega) hP.2.2.2.2).symm))
      · refine jlconst hF (n := 1) 1 rfl (by decide +kernel) ?_
        refine jblk hF [(.iload 6, 2)] (by decide +kernel) (pc' := 17) (lo' := [(0, (1, a)), (2, (1, rest)), (4, (1, root)), (6, (0, i))]) (st' := [(0, i), (1, 1)]) rfl ?_
        refine jlshl hF (by decide +kernel) ?_
        obtain ⟨H, hb1, hb2, hb3, hb4⟩ := RI_s hRI (by omega)
        have hHH := mul_bd (a := H) (b := H) (M := 1073741824) (N := 1073741824) (by omega) (by omega)
        have hPH := mul_bd (a := P) (b := H) (M := 2147483648) (N := 1073741824) (by omega) (by omega)
        have hq := rt_eqs P H
        rw [← hb2] at hq
        have hsr := flshr_1 (a := root) (by omega)
        refine jblk hF [(.lstore 7, 2), (.lload_n 2, 1), (.lload 4, 2), (.lload 7, 2), (.ladd, 1)] (by decide +kernel) (pc' := 26) (lo' := [(7, (1, flshl 1 i)), (0, (1, a)), (2, (1, rest)), (4, (1, root)), (6, (0, i))]) (st' := [(1, root + (flshl 1 i)), (1, rest)]) rfl ?_
        refine jlcmp_lt hF (off := 23) 50 (by decide +kernel) (by decide +kernel) (by decide) (by omega) (by omega) (fun h_5 => ?_) (fun h_5 => ?_)
        · refine jblk hF [(.lload 4, 2), (.iconst 1, 1)] (by decide +kernel) (pc' := 53) (lo' := [(7, (1, flshl 1 i)), (0, (1, a)), (2, (1, rest)), (4, (1, root)), (6, (0, i))]) (st' := [(0, 1), (1, root)]) rfl ?_
          refine jlshr hF (by decide +kernel) ?_
          refine jblk hF [(.lstore 4, 2), (.iinc 6 (-2), 3)] (by decide +kernel) (pc' := 59) (lo' := [(6, (0, i + (-2))), (4, (1, flshr root 1)), (7, (1, flshl 1 i)), (0, (1, a)), (2, (1, rest))]) (st' := []) rfl ?_
          obtain ⟨P2, hP2⟩ : ∃ P2 : Int, 0 ≤ P2 ∧ rest = a - P2 * P2 ∧ 0 ≤ rest ∧ (flshr root 1) = P2 * H ∧ a < (P2 + H) * (P2 + H) := by first | exact ⟨P, by omega⟩ | exact ⟨P + H, by rw [hq.2.1, hq.2.2.1, Int.add_assoc P H H, show H + H = 2 * H by omega, ← hb2]; omega⟩
          refine jgoto hF (off := (-50)) 9 (by decide +kernel) (by decide) ?_
          refine jsub [3, 4, 1, 0] rfl ?_
          refine ih_1 rest (flshr root 1) (i + (-2)) P2 H ?_ ?_ ?_
          · exact hb3
          · exact hP2
          · omega
        · refine jblk hF [(.lload_n 2, 1), (.lload 4, 2), (.lload 7, 2), (.ladd, 1), (.lsub, 1), (.lstore_n 2, 1), (.lload 4, 2), (.iconst 1, 1)] (by decide +kernel) (pc' := 41) (lo' := [(2, (1, rest - (root + (flshl 1 i)))), (7, (1, flshl 1 i)), (0, (1, a)), (4, (1, root)), (6, (0, i))]) (st' := [(0, 1), (1, root)]) rfl ?_
          refine jlshr hF (by decide +kernel) ?_
          refine jblk hF [(.lload 7, 2), (.ladd, 1), (.lstore 4, 2)] (by decide +kernel) (pc' := 47) (lo' := [(4, (1, (flshr root 1) + (flshl 1 i))), (2, (1, rest - (root + (flshl 1 i)))), (7, (1, flshl 1 i)), (0, (1, a)), (6, (0, i))]) (st' := []) rfl ?_
          refine jgoto hF (off := 9) 56 (by decide +kernel) (by decide) ?_
          refine jblk hF [(.iinc 6 (-2), 3)] (by decide +kernel) (pc' := 59) (lo' := [(6, (0, i + (-2))), (4, (1, (flshr root 1) + (flshl 1 i))), (2, (1, rest - (root + (flshl 1 i)))), (7, (1, flshl 1 i)), (0, (1, a))]) (st' := []) rfl ?_
          obtain ⟨P2, hP2⟩ : ∃ P2 : Int, 0 ≤ P2 ∧ (rest - (root + (flshl 1 i))) = a - P2 * P2 ∧ 0 ≤ (rest - (root + (flshl 1 i))) ∧ ((flshr root 1) + (flshl 1 i)) = P2 * H ∧ a < (P2 + H) * (P2 + H) := by first | exact ⟨P, by omega⟩ | exact ⟨P + H, by rw [hq.2.1, hq.2.2.1, Int.add_assoc P H H, show H + H = 2 * H by omega, ← hb2]; omega⟩
          refine jgoto hF (off := (-50)) 9 (by decide +kernel) (by decide) ?_
          refine jsub [4, 2, 1, 0] rfl ?_
          refine ih_1 (rest - (root + (flshl 1 i))) ((flshr root 1) + (flshl 1 i)) (i + (-2)) P2 H ?_ ?_ ?_
          · exact hb3
          · exact hP2
          · omega
  refine jsub [3, 2, 1, 0] rfl ?_
  refine L_2 _ a 0 60 0 2147483648 ?_ ?_ (Nat.lt_succ_self _)
  · exact RI_0
  · omega
set_option maxHeartbeats 4000000 in
set_option maxRecDepth 100000 in
theorem c_ten6 {l : Launch} {g : GP} (hG : GH g) {kd : Int → Nat} {ln : Int → Int} {mem : Int → Int → Int} {sz : Nat} (hK : HK kd ln) (hR : HR mem) (p : Int) (hTN : TNS g) (hp : p = 6) : MT l g yX11_ten cX11_ten 1 (some .long) 0 0 0 [(0, p)] kd ln mem sz (pV (1, 1000000) kd ln mem sz) := by
  refine MT_of hG (by decide +kernel) (Nat.le_of_ble_eq_true rfl) (fun z hF hr hn => ?_)
  have hl0 := hK.l0
  refine jblk hF [(.iload_n 0, 1)] (by decide +kernel) (pc' := 1) (lo' := [(0, (0, p))]) (st' := [(0, p)]) rfl ?_
  refine jif_lt hF (off := 11) 12 (by decide +kernel) (by decide) (by omega) (fun h_1 => ?_) (fun h_1 => ?_)
  · refine jlconst hF (n := 1) 1 rfl (by decide +kernel) ?_
    refine jgoto hF (off := 8) 21 (by decide +kernel) (by decide) ?_
    refine jlret hF hr (by decide +kernel) ?_
    exact lV (by first | (exfalso; omega) | (subst hp; exact hR.2 6 (by omega) (by omega)))
  · refine jblk hF [(.iload_n 0, 1)] (by decide +kernel) (pc' := 5) (lo' := [(0, (0, p))]) (st' := [(0, p)]) rfl ?_
    refine jgets hF 0 hTN wd_521 (by decide +kernel) ?_
    show J z g 1 _ _ _ 8 _ ((2, (0 : Int)) :: _) _ _ _ _
    refine jalen hF 1 (by decide) (by decide +kernel) (by exact hK.k0) ?_
    refine jicmp_lt hF (off := 7) 16 (by decide +kernel) (by decide) (by omega) (by omega) (fun h_2 => ?_) (fun h_2 => ?_)
    · refine jgets hF 0 hTN wd_521 (by decide +kernel) ?_
      show J z g 1 _ _ _ 19 _ ((2, (0 : Int)) :: _) _ _ _ _
      refine jblk hF [(.iload_n 0, 1)] (by decide +kernel) (pc' := 20) (lo' := [(0, (0, p))]) (st' := [(0, p), (2, 0)]) rfl ?_
      refine jlald hF (by decide +kernel) (by exact hK.k0) (by omega) (by have := hK.l0; omega) ?_
      refine jlret hF hr (by decide +kernel) ?_
      exact lV (by first | (exfalso; omega) | (subst hp; exact hR.2 6 (by omega) (by omega)))
    · refine jlconst hF (n := 1) 1 rfl (by decide +kernel) ?_
      refine jgoto hF (off := 8) 21 (by decide +kernel) (by decide) ?_
      refine jlret hF hr (by decide +kernel) ?_
      exact lV (by first | (exfalso; omega) | (subst hp; exact hR.2 6 (by omega) (by omega)))
set_option maxHeartbeats 4000000 in
set_option maxRecDepth 100000 in
theorem c_ten12 {l : Launch} {g : GP} (hG : GH g) {kd : Int → Nat} {ln : Int → Int} {mem : Int → Int → Int} {sz : Nat} (hK : HK kd ln) (hR : HR mem) (p : Int) (hTN : TNS g) (hp : p = 12) : MT l g yX11_ten cX11_ten 1 (some .long) 0 0 0 [(0, p)] kd ln mem sz (pV (1, 1000000000000) kd ln mem sz) := by
  refine MT_of hG (by decide +kernel) (Nat.le_of_ble_eq_true rfl) (fun z hF hr hn => ?_)
  have hl0 := hK.l0
  refine jblk hF [(.iload_n 0, 1)] (by decide +kernel) (pc' := 1) (lo' := [(0, (0, p))]) (st' := [(0, p)]) rfl ?_
  refine jif_lt hF (off := 11) 12 (by decide +kernel) (by decide) (by omega) (fun h_1 => ?_) (fun h_1 => ?_)
  · refine jlconst hF (n := 1) 1 rfl (by decide +kernel) ?_
    refine jgoto hF (off := 8) 21 (by decide +kernel) (by decide) ?_
    refine jlret hF hr (by decide +kernel) ?_
    exact lV (by first | (exfalso; omega) | (subst hp; exact hR.2 12 (by omega) (by omega)))
  · refine jblk hF [(.iload_n 0, 1)] (by decide +kernel) (pc' := 5) (lo' := [(0, (0, p))]) (st' := [(0, p)]) rfl ?_
    refine jgets hF 0 hTN wd_521 (by decide +kernel) ?_
    show J z g 1 _ _ _ 8 _ ((2, (0 : Int)) :: _) _ _ _ _
    refine jalen hF 1 (by decide) (by decide +kernel) (by exact hK.k0) ?_
    refine jicmp_lt hF (off := 7) 16 (by decide +kernel) (by decide) (by omega) (by omega) (fun h_2 => ?_) (fun h_2 => ?_)
    · refine jgets hF 0 hTN wd_521 (by decide +kernel) ?_
      show J z g 1 _ _ _ 19 _ ((2, (0 : Int)) :: _) _ _ _ _
      refine jblk hF [(.iload_n 0, 1)] (by decide +kernel) (pc' := 20) (lo' := [(0, (0, p))]) (st' := [(0, p), (2, 0)]) rfl ?_
      refine jlald hF (by decide +kernel) (by exact hK.k0) (by omega) (by have := hK.l0; omega) ?_
      refine jlret hF hr (by decide +kernel) ?_
      exact lV (by first | (exfalso; omega) | (subst hp; exact hR.2 12 (by omega) (by omega)))
    · refine jlconst hF (n := 1) 1 rfl (by decide +kernel) ?_
      refine jgoto hF (off := 8) 21 (by decide +kernel) (by decide) ?_
      refine jlret hF hr (by decide +kernel) ?_
      exact lV (by first | (exfalso; omega) | (subst hp; exact hR.2 12 (by omega) (by omega)))
set_option maxHeartbeats 4000000 in
set_option maxRecDepth 100000 in
theorem c_X0_quartersAt {l : Launch} {g : GP} (hG : GH g) {kd : Int → Nat} {ln : Int → Int} {mem : Int → Int → Int} {sz : Nat} (hK : HK kd ln) (hR : HR mem) (p : Int) (x : Int) (hp0 : 0 ≤ p) (hTN : TNS g) (hkp : kd p = 2) (hs : 0 ≤ mem p 0 ∧ mem p 0 ≤ 2) (hab : AB (mem p 1) (mem p 2)) (hx : 1 ≤ x ∧ x ≤ 9999) : MT l g yX0_quartersAt cX0_quartersAt 8 (some .long) 1 0 0 [(2, p), (0, x)] kd ln mem sz (pV (1, qV (mem p 0) (mem p 1) (mem p 2) x) kd ln mem sz) := by
  refine MT_of hG (by decide +kernel) (Nat.le_of_ble_eq_true rfl) (fun z hF hr hn => ?_)
  have hax := mul_bd (a := mem p 1) (b := x) (M := 99) (N := 9999) (by omega) (by omega)
  have hxx := mul_bd (a := x) (b := x) (M := 9999) (N := 9999) (by omega) (by omega)
  refine jblk hF [(.aload_n 0, 1)] (by decide +kernel) (pc' := 1) (lo' := [(0, (2, p)), (1, (0, x))]) (st' := [(2, p)]) rfl ?_
  refine jget hF 1 0 0 0 rfl (by decide) (by decide) rfl wd_420 (by decide +kernel) (by first | assumption | omega) ?_
  refine jif_ne hF (off := 56) 60 (by decide +kernel) (by decide) (by omega) (fun h_1 => ?_) (fun h_1 => ?_)
  · refine jldc2 hF 2 (cst_l wd_526 (by decide)) (by decide +kernel) ?_
    refine jblk hF [(.bipush 6, 2)] (by decide +kernel) (pc' := 65) (lo' := [(0, (2, p)), (1, (0, x))]) (st' := [(0, 6), (1, 2)]) rfl ?_
    refine jcallSN hF (c_ten6 hG hK hR 6 (by assumption) (by rfl)) MW_X11_ten wd_518 wd_519 (by decide +kernel) [(1, 2)] rfl rfl (by decide) (Nat.le_of_ble_eq_true rfl) (by decide) (kV ?_)
    refine jblk hF [(.lmul, 1), (.aload_n 0, 1)] (by decide +kernel) (pc' := 70) (lo' := [(0, (2, p)), (1, (0, x))]) (st' := [(2, p), (1, 2 * 1000000)]) rfl ?_
    refine jget hF 1 0 0 0 rfl (by decide) (by decide) rfl wd_420 (by decide +kernel) (by first | assumption | omega) ?_
    refine jblk hF [(.iconst 1, 1)] (by decide +kernel) (pc' := 74) (lo' := [(0, (2, p)), (1, (0, x))]) (st' := [(0, 1), (0, mem p 0), (1, 2 * 1000000)]) rfl ?_
    refine jicmp_ne hF (off := 14) 88 (by decide +kernel) (by decide) (by omega) (by decide) (fun h_2 => ?_) (fun h_2 => ?_)
    · refine jblk hF [(.iload_n 1, 1), (.iload_n 1, 1), (.imul, 1), (.aload_n 0, 1)] (by decide +kernel) (pc' := 92) (lo' := [(0, (2, p)), (1, (0, x))]) (st' := [(2, p), (0, x * x), (1, 2 * 1000000)]) rfl ?_
      refine jget hF 1 1 0 1 rfl (by decide) (by decide) rfl wd_421 (by decide +kernel) (by first | assumption | omega) ?_
      refine jblk hF [(.iload_n 1, 1), (.imul, 1), (.iadd, 1), (.aload_n 0, 1)] (by decide +kernel) (pc' := 99) (lo' := [(0, (2, p)), (1, (0, x))]) (st' := [(2, p), (0, (x * x) + ((mem p 1) * x)), (1, 2 * 1000000)]) rfl ?_
      refine jget hF 1 2 0 2 rfl (by decide) (by decide) rfl wd_422 (by decide +kernel) (by first | assumption | omega) ?_
      refine jblk hF [(.iadd, 1)] (by decide +kernel) (pc' := 103) (lo' := [(0, (2, p)), (1, (0, x))]) (st' := [(0, ((x * x) + ((mem p 1) * x)) + (mem p 2)), (1, 2 * 1000000)]) rfl ?_
      refine ji2l hF (by decide +kernel) (by omega) ?_
      refine jblk hF [(.lmul, 1), (.lstore_n 2, 1), (.aload_n 0, 1)] (by decide +kernel) (pc' := 107) (lo' := [(2, (1, (2 * 1000000) * (((x * x) + ((mem p 1) * x)) + (mem p 2)))), (0, (2, p)), (1, (0, x))]) (st' := [(2, p)]) rfl ?_
      refine jget hF 1 0 0 0 rfl (by decide) (by decide) rfl wd_420 (by decide +kernel) (by first | assumption | omega) ?_
      refine jblk hF [(.iconst 1, 1)] (by decide +kernel) (pc' := 111) (lo' := [(2, (1, (2 * 1000000) * (((x * x) + ((mem p 1) * x)) + (mem p 2)))), (0, (2, p)), (1, (0, x))]) (st' := [(0, 1), (0, mem p 0)]) rfl ?_
      refine jicmp_ne hF (off := 13) 124 (by decide +kernel) (by decide) (by omega) (by decide) (fun h_3 => ?_) (fun h_3 => ?_)
      · refine jldc2 hF 7 (cst_l wd_527 (by decide)) (by decide +kernel) ?_
        refine jblk hF [(.lstore 4, 2)] (by decide +kernel) (pc' := 129) (lo' := [(4, (1, 7)), (2, (1, (2 * 1000000) * (((x * x) + ((mem p 1) * x)) + (mem p 2)))), (0, (2, p)), (1, (0, x))]) (st' := []) rfl ?_
        obtain ⟨t, ht⟩ : ∃ q : Int, q = (2 * 1000000) * (((x * x) + ((mem p 1) * x)) + (mem p 2)) := ⟨_, rfl⟩
        rw [← ht]
        obtain ⟨u, hu⟩ : ∃ q : Int, q = 7 := ⟨_, rfl⟩
        rw [← hu]
        refine jblk hF [(.lload 4, 2)] (by decide +kernel) (pc' := 131) (lo' := [(4, (1, u)), (2, (1, t)), (0, (2, p)), (1, (0, x))]) (st' := [(1, u)]) rfl ?_
        refine jlconst hF (n := 0) 0 rfl (by decide +kernel) ?_
        refine jlcmp_gt hF (off := 5) 138 (by decide +kernel) (by decide +kernel) (by decide) (by omega) (by decide) (fun h_4 => ?_) (fun h_4 => ?_)
        · refine jblk hF [(.lload_n 2, 1), (.lload 4, 2)] (by decide +kernel) (pc' := 141) (lo' := [(4, (1, u)), (2, (1, t)), (0, (2, p)), (1, (0, x))]) (st' := [(1, u), (1, t)]) rfl ?_
          refine jldivN hF (by decide +kernel) (by omega) (by omega) ?_
          have hd1 := ediv_bd t u (by omega)
          have hd2 := ediv_mul_bd t u (by omega)
          refine jblk hF [(.lstore 6, 2)] (by decide +kernel) (pc' := 144) (lo' := [(6, (1, t / u)), (4, (1, u)), (2, (1, t)), (0, (2, p)), (1, (0, x))]) (st' := []) rfl ?_
          refine jldc2 hF 2 (cst_l wd_526 (by decide)) (by decide +kernel) ?_
          refine jblk hF [(.lload 6, 2), (.lmul, 1), (.lload 6, 2), (.lload 4, 2), (.lmul, 1), (.lload_n 2, 1)] (by decide +kernel) (pc' := 156) (lo' := [(6, (1, t / u)), (4, (1, u)), (2, (1, t)), (0, (2, p)), (1, (0, x))]) (st' := [(1, t), (1, (t / u) * u), (1, 2 * (t / u))]) rfl ?_
          refine jlcmp_ne hF (off := 7) 164 (by decide +kernel) (by decide +kernel) (by decide) (by omega) (by omega) (fun h_5 => ?_) (fun h_5 => ?_)
          · refine jblk hF [(.iconst 1, 1)] (by decide +kernel) (pc' := 165) (lo' := [(6, (1, t / u)), (4, (1, u)), (2, (1, t)), (0, (2, p)), (1, (0, x))]) (st' := [(0, 1), (1, 2 * (t / u))]) rfl ?_
            refine ji2l hF (by decide +kernel) (by decide) ?_
            refine jblk hF [(.ladd, 1)] (by decide +kernel) (pc' := 167) (lo' := [(6, (1, t / u)), (4, (1, u)), (2, (1, t)), (0, (2, p)), (1, (0, x))]) (st' := [(1, (2 * (t / u)) + 1)]) rfl ?_
            refine jlret hF hr (by decide +kernel) ?_
            exact lV (by exact qV_d (by omega) (by rw [ht]; first | (unfold topV; rw [if_pos (by omega)]; done) | (unfold topV; rw [if_neg (by omega)]; done) | (exfalso; omega)) (by rw [hu]; first | (unfold belowV; rw [if_pos (by omega)]; done) | (unfold belowV; rw [if_neg (by omega)]; done) | (exfalso; omega)) (by omega))
          · refine jblk hF [(.iconst 0, 1)] (by decide +kernel) (pc' := 161) (lo' := [(6, (1, t / u)), (4, (1, u)), (2, (1, t)), (0, (2, p)), (1, (0, x))]) (st' := [(0, 0), (1, 2 * (t / u))]) rfl ?_
            refine jgoto hF (off := 4) 165 (by decide +kernel) (by decide) ?_
            refine ji2l hF (by decide +kernel) (by decide) ?_
            refine jblk hF [(.ladd, 1)] (by decide +kernel) (pc' := 167) (lo' := [(6, (1, t / u)), (4, (1, u)), (2, (1, t)), (0, (2, p)), (1, (0, x))]) (st' := [(1, (2 * (t / u)) + 0)]) rfl ?_
            refine jlret hF hr (by decide +kernel) ?_
            exact lV (by exact qV_d (by omega) (by rw [ht]; first | (unfold topV; rw [if_pos (by omega)]; done) | (unfold topV; rw [if_neg (by omega)]; done) | (exfalso; omega)) (by rw [hu]; first | (unfold belowV; rw [if_pos (by omega)]; done) | (unfold belowV; rw [if_neg (by omega)]; done) | (exfalso; omega)) (by omega))
        · refine jlconst hF (n := 0) 0 rfl (by decide +kernel) ?_
          refine jlret hF hr (by decide +kernel) ?_
          exact lV (by exfalso; omega)
      · refine jblk hF [(.iload_n 1, 1), (.aload_n 0, 1)] (by decide +kernel) (pc' := 116) (lo' := [(2, (1, (2 * 1000000) * (((x * x) + ((mem p 1) * x)) + (mem p 2)))), (0, (2, p)), (1, (0, x))]) (st' := [(2, p), (0, x)]) rfl ?_
        refine jget hF 1 2 0 2 rfl (by decide) (by decide) rfl wd_422 (by decide +kernel) (by first | assumption | omega) ?_
        refine jblk hF [(.iadd, 1)] (by decide +kernel) (pc' := 120) (lo' := [(2, (1, (2 * 1000000) * (((x * x) + ((mem p 1) * x)) + (mem p 2)))), (0, (2, p)), (1, (0, x))]) (st' := [(0, x + (mem p 2))]) rfl ?_
        refine ji2l hF (by decide +kernel) (by omega) ?_
        refine jgoto hF (off := 6) 127 (by decide +kernel) (by decide) ?_
        refine jblk hF [(.lstore 4, 2)] (by decide +kernel) (pc' := 129) (lo' := [(4, (1, x + (mem p 2))), (2, (1, (2 * 1000000) * (((x * x) + ((mem p 1) * x)) + (mem p 2)))), (0, (2, p)), (1, (0, x))]) (st' := []) rfl ?_
        obtain ⟨t, ht⟩ : ∃ q : Int, q = (2 * 1000000) * (((x * x) + ((mem p 1) * x)) + (mem p 2)) := ⟨_, rfl⟩
        rw [← ht]
        obtain ⟨u, hu⟩ : ∃ q : Int, q = x + (mem p 2) := ⟨_, rfl⟩
        rw [← hu]
        refine jblk hF [(.lload 4, 2)] (by decide +kernel) (pc' := 131) (lo' := [(4, (1, u)), (2, (1, t)), (0, (2, p)), (1, (0, x))]) (st' := [(1, u)]) rfl ?_
        refine jlconst hF (n := 0) 0 rfl (by decide +kernel) ?_
        refine jlcmp_gt hF (off := 5) 138 (by decide +kernel) (by decide +kernel) (by decide) (by omega) (by decide) (fun h_6 => ?_) (fun h_6 => ?_)
        · refine jblk hF [(.lload_n 2, 1), (.lload 4, 2)] (by decide +kernel) (pc' := 141) (lo' := [(4, (1, u)), (2, (1, t)), (0, (2, p)), (1, (0, x))]) (st' := [(1, u), (1, t)]) rfl ?_
          refine jldivN hF (by decide +kernel) (by omega) (by omega) ?_
          have hd1 := ediv_bd t u (by omega)
          have hd2 := ediv_mul_bd t u (by omega)
          refine jblk hF [(.lstore 6, 2)] (by decide +kernel) (pc' := 144) (lo' := [(6, (1, t / u)), (4, (1, u)), (2, (1, t)), (0, (2, p)), (1, (0, x))]) (st' := []) rfl ?_
          refine jldc2 hF 2 (cst_l wd_526 (by decide)) (by decide +kernel) ?_
          refine jblk hF [(.lload 6, 2), (.lmul, 1), (.lload 6, 2), (.lload 4, 2), (.lmul, 1), (.lload_n 2, 1)] (by decide +kernel) (pc' := 156) (lo' := [(6, (1, t / u)), (4, (1, u)), (2, (1, t)), (0, (2, p)), (1, (0, x))]) (st' := [(1, t), (1, (t / u) * u), (1, 2 * (t / u))]) rfl ?_
          refine jlcmp_ne hF (off := 7) 164 (by decide +kernel) (by decide +kernel) (by decide) (by omega) (by omega) (fun h_7 => ?_) (fun h_7 => ?_)
          · refine jblk hF [(.iconst 1, 1)] (by decide +kernel) (pc' := 165) (lo' := [(6, (1, t / u)), (4, (1, u)), (2, (1, t)), (0, (2, p)), (1, (0, x))]) (st' := [(0, 1), (1, 2 * (t / u))]) rfl ?_
            refine ji2l hF (by decide +kernel) (by decide) ?_
            refine jblk hF [(.ladd, 1)] (by decide +kernel) (pc' := 167) (lo' := [(6, (1, t / u)), (4, (1, u)), (2, (1, t)), (0, (2, p)), (1, (0, x))]) (st' := [(1, (2 * (t / u)) + 1)]) rfl ?_
            refine jlret hF hr (by decide +kernel) ?_
            exact lV (by exact qV_d (by omega) (by rw [ht]; first | (unfold topV; rw [if_pos (by omega)]; done) | (unfold topV; rw [if_neg (by omega)]; done) | (exfalso; omega)) (by rw [hu]; first | (unfold belowV; rw [if_pos (by omega)]; done) | (unfold belowV; rw [if_neg (by omega)]; done) | (exfalso; omega)) (by omega))
          · refine jblk hF [(.iconst 0, 1)] (by decide +kernel) (pc' := 161) (lo' := [(6, (1, t / u)), (4, (1, u)), (2, (1, t)), (0, (2, p)), (1, (0, x))]) (st' := [(0, 0), (1, 2 * (t / u))]) rfl ?_
            refine jgoto hF (off := 4) 165 (by decide +kernel) (by decide) ?_
            refine ji2l hF (by decide +kernel) (by decide) ?_
            refine jblk hF [(.ladd, 1)] (by decide +kernel) (pc' := 167) (lo' := [(6, (1, t / u)), (4, (1, u)), (2, (1, t)), (0, (2, p)), (1, (0, x))]) (st' := [(1, (2 * (t / u)) + 0)]) rfl ?_
            refine jlret hF hr (by decide +kernel) ?_
            exact lV (by exact qV_d (by omega) (by rw [ht]; first | (unfold topV; rw [if_pos (by omega)]; done) | (unfold topV; rw [if_neg (by omega)]; done) | (exfalso; omega)) (by rw [hu]; first | (unfold belowV; rw [if_pos (by omega)]; done) | (unfold belowV; rw [if_neg (by omega)]; done) | (exfalso; omega)) (by omega))
        · refine jlconst hF (n := 0) 0 rfl (by decide +kernel) ?_
          refine jlret hF hr (by decide +kernel) ?_
          exact lV (by exfalso; omega)
    · refine jblk hF [(.sipush 1000, 3), (.aload_n 0, 1)] (by decide +kernel) (pc' := 81) (lo' := [(0, (2, p)), (1, (0, x))]) (st' := [(2, p), (0, 1000), (1, 2 * 1000000)]) rfl ?_
      refine jget hF 1 1 0 1 rfl (by decide) (by decide) rfl wd_421 (by decide +kernel) (by first | assumption | omega) ?_
      refine jblk hF [(.imul, 1)] (by decide +kernel) (pc' := 85) (lo' := [(0, (2, p)), (1, (0, x))]) (st' := [(0, 1000 * (mem p 1)), (1, 2 * 1000000)]) rfl ?_
      refine jgoto hF (off := 18) 103 (by decide +kernel) (by decide) ?_
      refine ji2l hF (by decide +kernel) (by omega) ?_
      refine jblk hF [(.lmul, 1), (.lstore_n 2, 1), (.aload_n 0, 1)] (by decide +kernel) (pc' := 107) (lo' := [(2, (1, (2 * 1000000) * (1000 * (mem p 1)))), (0, (2, p)), (1, (0, x))]) (st' := [(2, p)]) rfl ?_
      refine jget hF 1 0 0 0 rfl (by decide) (by decide) rfl wd_420 (by decide +kernel) (by first | assumption | omega) ?_
      refine jblk hF [(.iconst 1, 1)] (by decide +kernel) (pc' := 111) (lo' := [(2, (1, (2 * 1000000) * (1000 * (mem p 1)))), (0, (2, p)), (1, (0, x))]) (st' := [(0, 1), (0, mem p 0)]) rfl ?_
      refine jicmp_ne hF (off := 13) 124 (by decide +kernel) (by decide) (by omega) (by decide) (fun h_8 => ?_) (fun h_8 => ?_)
      · refine jldc2 hF 7 (cst_l wd_527 (by decide)) (by decide +kernel) ?_
        refine jblk hF [(.lstore 4, 2)] (by decide +kernel) (pc' := 129) (lo' := [(4, (1, 7)), (2, (1, (2 * 1000000) * (1000 * (mem p 1)))), (0, (2, p)), (1, (0, x))]) (st' := []) rfl ?_
        obtain ⟨t, ht⟩ : ∃ q : Int, q = (2 * 1000000) * (1000 * (mem p 1)) := ⟨_, rfl⟩
        rw [← ht]
        obtain ⟨u, hu⟩ : ∃ q : Int, q = 7 := ⟨_, rfl⟩
        rw [← hu]
        refine jblk hF [(.lload 4, 2)] (by decide +kernel) (pc' := 131) (lo' := [(4, (1, u)), (2, (1, t)), (0, (2, p)), (1, (0, x))]) (st' := [(1, u)]) rfl ?_
        refine jlconst hF (n := 0) 0 rfl (by decide +kernel) ?_
        refine jlcmp_gt hF (off := 5) 138 (by decide +kernel) (by decide +kernel) (by decide) (by omega) (by decide) (fun h_9 => ?_) (fun h_9 => ?_)
        · refine jblk hF [(.lload_n 2, 1), (.lload 4, 2)] (by decide +kernel) (pc' := 141) (lo' := [(4, (1, u)), (2, (1, t)), (0, (2, p)), (1, (0, x))]) (st' := [(1, u), (1, t)]) rfl ?_
          refine jldivN hF (by decide +kernel) (by omega) (by omega) ?_
          have hd1 := ediv_bd t u (by omega)
          have hd2 := ediv_mul_bd t u (by omega)
          refine jblk hF [(.lstore 6, 2)] (by decide +kernel) (pc' := 144) (lo' := [(6, (1, t / u)), (4, (1, u)), (2, (1, t)), (0, (2, p)), (1, (0, x))]) (st' := []) rfl ?_
          refine jldc2 hF 2 (cst_l wd_526 (by decide)) (by decide +kernel) ?_
          refine jblk hF [(.lload 6, 2), (.lmul, 1), (.lload 6, 2), (.lload 4, 2), (.lmul, 1), (.lload_n 2, 1)] (by decide +kernel) (pc' := 156) (lo' := [(6, (1, t / u)), (4, (1, u)), (2, (1, t)), (0, (2, p)), (1, (0, x))]) (st' := [(1, t), (1, (t / u) * u), (1, 2 * (t / u))]) rfl ?_
          refine jlcmp_ne hF (off := 7) 164 (by decide +kernel) (by decide +kernel) (by decide) (by omega) (by omega) (fun h_10 => ?_) (fun h_10 => ?_)
          · refine jblk hF [(.iconst 1, 1)] (by decide +kernel) (pc' := 165) (lo' := [(6, (1, t / u)), (4, (1, u)), (2, (1, t)), (0, (2, p)), (1, (0, x))]) (st' := [(0, 1), (1, 2 * (t / u))]) rfl ?_
            refine ji2l hF (by decide +kernel) (by decide) ?_
            refine jblk hF [(.ladd, 1)] (by decide +kernel) (pc' := 167) (lo' := [(6, (1, t / u)), (4, (1, u)), (2, (1, t)), (0, (2, p)), (1, (0, x))]) (st' := [(1, (2 * (t / u)) + 1)]) rfl ?_
            refine jlret hF hr (by decide +kernel) ?_
            exact lV (by exact qV_d (by omega) (by rw [ht]; first | (unfold topV; rw [if_pos (by omega)]; done) | (unfold topV; rw [if_neg (by omega)]; done) | (exfalso; omega)) (by rw [hu]; first | (unfold belowV; rw [if_pos (by omega)]; done) | (unfold belowV; rw [if_neg (by omega)]; done) | (exfalso; omega)) (by omega))
          · refine jblk hF [(.iconst 0, 1)] (by decide +kernel) (pc' := 161) (lo' := [(6, (1, t / u)), (4, (1, u)), (2, (1, t)), (0, (2, p)), (1, (0, x))]) (st' := [(0, 0), (1, 2 * (t / u))]) rfl ?_
            refine jgoto hF (off := 4) 165 (by decide +kernel) (by decide) ?_
            refine ji2l hF (by decide +kernel) (by decide) ?_
            refine jblk hF [(.ladd, 1)] (by decide +kernel) (pc' := 167) (lo' := [(6, (1, t / u)), (4, (1, u)), (2, (1, t)), (0, (2, p)), (1, (0, x))]) (st' := [(1, (2 * (t / u)) + 0)]) rfl ?_
            refine jlret hF hr (by decide +kernel) ?_
            exact lV (by exact qV_d (by omega) (by rw [ht]; first | (unfold topV; rw [if_pos (by omega)]; done) | (unfold topV; rw [if_neg (by omega)]; done) | (exfalso; omega)) (by rw [hu]; first | (unfold belowV; rw [if_pos (by omega)]; done) | (unfold belowV; rw [if_neg (by omega)]; done) | (exfalso; omega)) (by omega))
        · refine jlconst hF (n := 0) 0 rfl (by decide +kernel) ?_
          refine jlret hF hr (by decide +kernel) ?_
          exact lV (by exfalso; omega)
      · refine jblk hF [(.iload_n 1, 1), (.aload_n 0, 1)] (by decide +kernel) (pc' := 116) (lo' := [(2, (1, (2 * 1000000) * (1000 * (mem p 1)))), (0, (2, p)), (1, (0, x))]) (st' := [(2, p), (0, x)]) rfl ?_
        refine jget hF 1 2 0 2 rfl (by decide) (by decide) rfl wd_422 (by decide +kernel) (by first | assumption | omega) ?_
        refine jblk hF [(.iadd, 1)] (by decide +kernel) (pc' := 120) (lo' := [(2, (1, (2 * 1000000) * (1000 * (mem p 1)))), (0, (2, p)), (1, (0, x))]) (st' := [(0, x + (mem p 2))]) rfl ?_
        refine ji2l hF (by decide +kernel) (by omega) ?_
        refine jgoto hF (off := 6) 127 (by decide +kernel) (by decide) ?_
        refine jblk hF [(.lstore 4, 2)] (by decide +kernel) (pc' := 129) (lo' := [(4, (1, x + (mem p 2))), (2, (1, (2 * 1000000) * (1000 * (mem p 1)))), (0, (2, p)), (1, (0, x))]) (st' := []) rfl ?_
        obtain ⟨t, ht⟩ : ∃ q : Int, q = (2 * 1000000) * (1000 * (mem p 1)) := ⟨_, rfl⟩
        rw [← ht]
        obtain ⟨u, hu⟩ : ∃ q : Int, q = x + (mem p 2) := ⟨_, rfl⟩
        rw [← hu]
        refine jblk hF [(.lload 4, 2)] (by decide +kernel) (pc' := 131) (lo' := [(4, (1, u)), (2, (1, t)), (0, (2, p)), (1, (0, x))]) (st' := [(1, u)]) rfl ?_
        refine jlconst hF (n := 0) 0 rfl (by decide +kernel) ?_
        refine jlcmp_gt hF (off := 5) 138 (by decide +kernel) (by decide +kernel) (by decide) (by omega) (by decide) (fun h_11 => ?_) (fun h_11 => ?_)
        · refine jblk hF [(.lload_n 2, 1), (.lload 4, 2)] (by decide +kernel) (pc' := 141) (lo' := [(4, (1, u)), (2, (1, t)), (0, (2, p)), (1, (0, x))]) (st' := [(1, u), (1, t)]) rfl ?_
          refine jldivN hF (by decide +kernel) (by omega) (by omega) ?_
          have hd1 := ediv_bd t u (by omega)
          have hd2 := ediv_mul_bd t u (by omega)
          refine jblk hF [(.lstore 6, 2)] (by decide +kernel) (pc' := 144) (lo' := [(6, (1, t / u)), (4, (1, u)), (2, (1, t)), (0, (2, p)), (1, (0, x))]) (st' := []) rfl ?_
          refine jldc2 hF 2 (cst_l wd_526 (by decide)) (by decide +kernel) ?_
          refine jblk hF [(.lload 6, 2), (.lmul, 1), (.lload 6, 2), (.lload 4, 2), (.lmul, 1), (.lload_n 2, 1)] (by decide +kernel) (pc' := 156) (lo' := [(6, (1, t / u)), (4, (1, u)), (2, (1, t)), (0, (2, p)), (1, (0, x))]) (st' := [(1, t), (1, (t / u) * u), (1, 2 * (t / u))]) rfl ?_
          refine jlcmp_ne hF (off := 7) 164 (by decide +kernel) (by decide +kernel) (by decide) (by omega) (by omega) (fun h_12 => ?_) (fun h_12 => ?_)
          · refine jblk hF [(.iconst 1, 1)] (by decide +kernel) (pc' := 165) (lo' := [(6, (1, t / u)), (4, (1, u)), (2, (1, t)), (0, (2, p)), (1, (0, x))]) (st' := [(0, 1), (1, 2 * (t / u))]) rfl ?_
            refine ji2l hF (by decide +kernel) (by decide) ?_
            refine jblk hF [(.ladd, 1)] (by decide +kernel) (pc' := 167) (lo' := [(6, (1, t / u)), (4, (1, u)), (2, (1, t)), (0, (2, p)), (1, (0, x))]) (st' := [(1, (2 * (t / u)) + 1)]) rfl ?_
            refine jlret hF hr (by decide +kernel) ?_
            exact lV (by exact qV_d (by omega) (by rw [ht]; first | (unfold topV; rw [if_pos (by omega)]; done) | (unfold topV; rw [if_neg (by omega)]; done) | (exfalso; omega)) (by rw [hu]; first | (unfold belowV; rw [if_pos (by omega)]; done) | (unfold belowV; rw [if_neg (by omega)]; done) | (exfalso; omega)) (by omega))
          · refine jblk hF [(.iconst 0, 1)] (by decide +kernel) (pc' := 161) (lo' := [(6, (1, t / u)), (4, (1, u)), (2, (1, t)), (0, (2, p)), (1, (0, x))]) (st' := [(0, 0), (1, 2 * (t / u))]) rfl ?_
            refine jgoto hF (off := 4) 165 (by decide +kernel) (by decide) ?_
            refine ji2l hF (by decide +kernel) (by decide) ?_
            refine jblk hF [(.ladd, 1)] (by decide +kernel) (pc' := 167) (lo' := [(6, (1, t / u)), (4, (1, u)), (2, (1, t)), (0, (2, p)), (1, (0, x))]) (st' := [(1, (2 * (t / u)) + 0)]) rfl ?_
            refine jlret hF hr (by decide +kernel) ?_
            exact lV (by exact qV_d (by omega) (by rw [ht]; first | (unfold topV; rw [if_pos (by omega)]; done) | (unfold topV; rw [if_neg (by omega)]; done) | (exfalso; omega)) (by rw [hu]; first | (unfold belowV; rw [if_pos (by omega)]; done) | (unfold belowV; rw [if_neg (by omega)]; done) | (exfalso; omega)) (by omega))
        · refine jlconst hF (n := 0) 0 rfl (by decide +kernel) ?_
          refine jlret hF hr (by decide +kernel) ?_
          exact lV (by exfalso; omega)
  · refine jldc2 hF 4 (cst_l wd_517 (by decide)) (by decide +kernel) ?_
    refine jblk hF [(.bipush 12, 2)] (by decide +kernel) (pc' := 12) (lo' := [(0, (2, p)), (1, (0, x))]) (st' := [(0, 12), (1, 4)]) rfl ?_
    refine jcallSN hF (c_ten12 hG hK hR 12 (by assumption) (by rfl)) MW_X11_ten wd_518 wd_519 (by decide +kernel) [(1, 4)] rfl rfl (by decide) (Nat.le_of_ble_eq_true rfl) (by decide) (kV ?_)
    refine jblk hF [(.lmul, 1), (.aload_n 0, 1)] (by decide +kernel) (pc' := 17) (lo' := [(0, (2, p)), (1, (0, x))]) (st' := [(2, p), (1, 4 * 1000000000000)]) rfl ?_
    refine jget hF 1 1 0 1 rfl (by decide) (by decide) rfl wd_421 (by decide +kernel) (by first | assumption | omega) ?_
    refine jblk hF [(.iload_n 1, 1), (.imul, 1), (.aload_n 0, 1)] (by decide +kernel) (pc' := 23) (lo' := [(0, (2, p)), (1, (0, x))]) (st' := [(2, p), (0, (mem p 1) * x), (1, 4 * 1000000000000)]) rfl ?_
    refine jget hF 1 2 0 2 rfl (by decide) (by decide) rfl wd_422 (by decide +kernel) (by first | assumption | omega) ?_
    refine jblk hF [(.iadd, 1)] (by decide +kernel) (pc' := 27) (lo' := [(0, (2, p)), (1, (0, x))]) (st' := [(0, ((mem p 1) * x) + (mem p 2)), (1, 4 * 1000000000000)]) rfl ?_
    refine ji2l hF (by decide +kernel) (by omega) ?_
    refine jblk hF [(.lmul, 1), (.lstore_n 2, 1)] (by decide +kernel) (pc' := 30) (lo' := [(2, (1, (4 * 1000000000000) * (((mem p 1) * x) + (mem p 2)))), (0, (2, p)), (1, (0, x))]) (st' := []) rfl ?_
    obtain ⟨w, hw⟩ : ∃ q : Int, q = (4 * 1000000000000) * (((mem p 1) * x) + (mem p 2)) := ⟨_, rfl⟩
    rw [← hw]
    refine jblk hF [(.lload_n 2, 1)] (by decide +kernel) (pc' := 31) (lo' := [(2, (1, w)), (0, (2, p)), (1, (0, x))]) (st' := [(1, w)]) rfl ?_
    refine jcallSN hF (c_X11_rootOf hG w (by omega)) MW_X11_rootOf wd_523 wd_524 (by decide +kernel) [] rfl rfl (by decide) (Nat.le_of_ble_eq_true rfl) (by decide) (kV ?_)
    have hi1 := isq_le (v := w) (by omega)
    have hi2 := isq_bd2 (v := w) (by omega)
    have hi3 := mul_bd (a := isq w) (b := isq w) (M := 2147483647) (N := 2147483647) (by omega) (by omega)
    refine jblk hF [(.lstore 4, 2)] (by decide +kernel) (pc' := 36) (lo' := [(4, (1, isq w)), (2, (1, w)), (0, (2, p)), (1, (0, x))]) (st' := []) rfl ?_
    refine jldc2 hF 2 (cst_l wd_526 (by decide)) (by decide +kernel) ?_
    refine jblk hF [(.lload 4, 2), (.lmul, 1), (.lload 4, 2), (.lload 4, 2), (.lmul, 1), (.lload_n 2, 1)] (by decide +kernel) (pc' := 48) (lo' := [(4, (1, isq w)), (2, (1, w)), (0, (2, p)), (1, (0, x))]) (st' := [(1, w), (1, (isq w) * (isq w)), (1, 2 * (isq w))]) rfl ?_
    refine jlcmp_ne hF (off := 7) 56 (by decide +kernel) (by decide +kernel) (by decide) (by omega) (by omega) (fun h_13 => ?_) (fun h_13 => ?_)
    · refine jblk hF [(.iconst 1, 1)] (by decide +kernel) (pc' := 57) (lo' := [(4, (1, isq w)), (2, (1, w)), (0, (2, p)), (1, (0, x))]) (st' := [(0, 1), (1, 2 * (isq w))]) rfl ?_
      refine ji2l hF (by decide +kernel) (by decide) ?_
      refine jblk hF [(.ladd, 1)] (by decide +kernel) (pc' := 59) (lo' := [(4, (1, isq w)), (2, (1, w)), (0, (2, p)), (1, (0, x))]) (st' := [(1, (2 * (isq w)) + 1)]) rfl ?_
      refine jlret hF hr (by decide +kernel) ?_
      exact lV (by exact qV_r (by omega) hw (by omega))
    · refine jblk hF [(.iconst 0, 1)] (by decide +kernel) (pc' := 53) (lo' := [(4, (1, isq w)), (2, (1, w)), (0, (2, p)), (1, (0, x))]) (st' := [(0, 0), (1, 2 * (isq w))]) rfl ?_
      refine jgoto hF (off := 4) 57 (by decide +kernel) (by decide) ?_
      refine ji2l hF (by decide +kernel) (by decide) ?_
      refine jblk hF [(.ladd, 1)] (by decide +kernel) (pc' := 59) (lo' := [(4, (1, isq w)), (2, (1, w)), (0, (2, p)), (1, (0, x))]) (st' := [(1, (2 * (isq w)) + 0)]) rfl ?_
      refine jlret hF hr (by decide +kernel) ?_
      exact lV (by exact qV_r (by omega) hw (by omega))
end
