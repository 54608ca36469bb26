section
/-! the figures: differences, one line -/
def sgI (i : Int) : Int := if i % 2 = 0 then 1 else -1
def cfI (t i : Int) : Int := sgI i * chN t i.toNat
theorem cf_all : ∀ t : Fin 6, ∀ i : Fin 6, (-(cfI t.val i.val) * ((t.val : Int) - i.val)).tdiv ((i.val : Int) + 1) = cfI t.val ((i.val : Int) + 1) ∧ -100 ≤ cfI t.val i.val ∧ cfI t.val i.val ≤ 100 := by decide +kernel
theorem cf_s {t i : Int} (ht : 0 ≤ t ∧ t ≤ 5) (hi : 0 ≤ i ∧ i ≤ 5) : (-(cfI t i) * (t - i)).tdiv (i + 1) = cfI t (i + 1) ∧ -100 ≤ cfI t i ∧ cfI t i ≤ 100 := by
  have a := cf_all ⟨t.toNat, by omega⟩ ⟨i.toNat, by omega⟩
  have e1 : ((t.toNat : Nat) : Int) = t := by omega
  have e2 : ((i.toNat : Nat) : Int) = i := by omega
  rw [← e1, ← e2]
  exact a
theorem cf_mul {t i : Int} (ht : 0 ≤ t ∧ t ≤ 5) (hi : 0 ≤ i ∧ i ≤ 5) : -500 ≤ -(cfI t i) * (t - i) ∧ -(cfI t i) * (t - i) ≤ 500 := by
  have h := (cf_s ht hi).2
  have key : (-(cfI t i) * (t - i)).natAbs ≤ 100 * 5 := by
    rw [Int.natAbs_mul]
    exact Nat.mul_le_mul (by omega) (by omega)
  omega
theorem dif_step {f : Int → Int} {n t i s c : Int} (hi : 0 ≤ i) (hs : s = difF f n t i.toNat) (hc : c = cfI t i) : s + c * f (n - i) = difF f n t (i + 1).toNat := by
  rw [show (i + 1).toNat = i.toNat + 1 by omega, difF, hs, hc, show ((i.toNat : Nat) : Int) = i by omega]
  rfl
/-- a line is made -/
def MLN (mem mm : Int → Int → Int) (n o : Int) : Prop := (∀ b j : Int, ¬ (b = 11 ∧ j = n) → ¬ (b = 12 ∧ n * 5 ≤ j ∧ j < n * 5 + 5) → mm b j = mem b j) ∧ mm 12 (n * 5 + o) = mem 12 (n * 5 - 5 + o) ∧ (∀ c : Int, 0 ≤ c → c < o → mm 12 (n * 5 + c) = mem 12 (n * 5 - 5 + c) + mm 12 (n * 5 + c + 1) + mem 13 (n * 5 + c)) ∧ mm 11 n = mm 12 (n * 5) + mem 13 (n * 5 + 4)
/-- the line's loop: columns above c are made -/
def MLJ (mem m : Int → Int → Int) (n o c : Int) : Prop := (∀ b j : Int, ¬ (b = 12 ∧ n * 5 ≤ j ∧ j < n * 5 + 5) → m b j = mem b j) ∧ m 12 (n * 5 + o) = mem 12 (n * 5 - 5 + o) ∧ ∀ i : Int, c < i → i < o → m 12 (n * 5 + i) = mem 12 (n * 5 - 5 + i) + m 12 (n * 5 + i + 1) + mem 13 (n * 5 + i)
theorem MLJ.start {mem : Int → Int → Int} {n o : Int} (ho : 0 ≤ o ∧ o ≤ 4) : MLJ mem (set2 mem 12 (n * 5 + o) (mem 12 (n * 5 - 5 + o))) n o (o - 1) :=
  ⟨fun b j q => if_neg (by omega), s2_s, fun i q1 q2 => by omega⟩
theorem MLJ.step {mem m : Int → Int → Int} {n o c x : Int} (h : MLJ mem m n o c) (hc : 0 ≤ c) (hco : c < o) (ho : o ≤ 4) (hx : x = m 12 (n * 5 - 5 + c) + m 12 (n * 5 + c + 1) + m 13 (n * 5 + c)) : MLJ mem (set2 m 12 (n * 5 + c) x) n o (c + (-1)) := by
  obtain ⟨h1, h2, h3⟩ := h
  refine ⟨fun b j q => (if_neg (by omega)).trans (h1 b j q), (s2_k (by omega)).trans h2, fun i q1 q2 => ?_⟩
  by_cases e : i = c
  · subst e
    rw [s2_s, s2_k (by omega), hx, h1 12 _ (by omega), h1 13 _ (by omega)]
  · rw [s2_k (by omega), s2_k (by omega)]
    exact h3 i (by omega) q2
theorem MLJ.done {mem m : Int → Int → Int} {n o c x : Int} (h : MLJ mem m n o c) (hc : c < 0) (ho : 0 ≤ o ∧ o ≤ 4) (hx : x = m 12 (n * 5) + m 13 (n * 5 + 4)) : MLN mem (set2 m 11 n x) n o := by
  obtain ⟨h1, h2, h3⟩ := h
  refine ⟨fun b j q1 q2 => (if_neg (by omega)).trans (h1 b j q2), (s2_a (by decide)).trans h2, fun i q1 q2 => ?_, ?_⟩
  · rw [s2_a (by decide), s2_a (by decide)]
    exact h3 i (by omega) q2
  · rw [s2_s, s2_a (by decide), hx, h1 13 _ (by omega)]
set_option maxHeartbeats 4000000 in
set_option maxRecDepth 100000 in
theorem c_X2_begin {l : Launch} {g : GP} (hG : GH g) {kd : Int → Nat} {ln : Int → Int} {mem : Int → Int → Int} {sz : Nat} (hK : HK kd ln) (hR : HR mem) : MT l g yX2_begin cX2_begin 1 none 1 0 0 [(2, 10)] kd ln mem sz (pMV (fun mem' => HR mem' ∧ (mem' = fillM mem 13 200 0)) kd ln sz) := by
  refine MT_of hG (by decide +kernel) (Nat.le_of_ble_eq_true rfl) (fun z hF hr hn => ?_)
  have hl13 := hK.l13
  refine jblk hF [(.aload_n 0, 1)] (by decide +kernel) (pc' := 1) (lo' := [(0, (2, 10))]) (st' := [(2, 10)]) rfl ?_
  refine jget hF 3 2 2 2 rfl (by decide) (by decide) rfl wd_202 (by decide +kernel) (by exact hK.k10) ?_
  rw [HR.r10_2 hR]
  refine jlconst hF (n := 0) 0 rfl (by decide +kernel) ?_
  refine jcallS hF (c_J7_fill_d0a16 hG 13 0 (by exact hK.k13) (by omega) (by omega)) MW_J7_fill_d0a16 wd_807 wd_808 (by decide +kernel) [] rfl rfl (by decide) (Nat.le_of_ble_eq_true rfl) (by decide) (kMV (fun m_1 h_2 => ?_))
  have hf := h_2
  have hR_m_1 : HR m_1 := hR.of (fun a k q => by rw [hf]; exact if_neg (by omega))
  refine jvret hF hr (by decide +kernel) ?_
  exact lMV ⟨hR_m_1, by (rw [hf, hl13])⟩
set_option maxHeartbeats 4000000 in
set_option maxRecDepth 100000 in
theorem c_X2_add {l : Launch} {g : GP} (hG : GH g) {kd : Int → Nat} {ln : Int → Int} {mem : Int → Int → Int} {sz : Nat} (hK : HK kd ln) (hR : HR mem) (n c a : Int) (hnc : 0 ≤ n ∧ n < 40 ∧ (c = 9 ∨ (0 ≤ c ∧ c ≤ 4))) : MT l g yX2_add cX2_add 6 none 1 0 0 [(2, 10), (0, n), (0, c), (1, a)] kd ln mem sz (pMV (fun mem' => HR mem' ∧ (mem' = set2 mem 13 (n * 5 + slotV c) (mem 13 (n * 5 + slotV c) + a))) kd ln sz) := by
  refine MT_of hG (by decide +kernel) (Nat.le_of_ble_eq_true rfl) (fun z hF hr hn => ?_)
  have hsl : (c = 9 → slotV c = 4) ∧ (c ≠ 9 → slotV c = c) := ⟨fun q => if_pos q, fun q => if_neg q⟩
  refine jblk hF [(.iload_n 2, 1), (.bipush 9, 2)] (by decide +kernel) (pc' := 3) (lo' := [(0, (2, 10)), (1, (0, n)), (2, (0, c)), (3, (1, a))]) (st' := [(0, 9), (0, c)]) rfl ?_
  refine jicmp_ne hF (off := 7) 10 (by decide +kernel) (by decide) (by omega) (by decide) (fun h_1 => ?_) (fun h_1 => ?_)
  · refine jblk hF [(.iload_n 2, 1), (.istore 5, 2), (.iload_n 1, 1), (.iconst 0, 1), (.bipush 39, 2)] (by decide +kernel) (pc' := 17) (lo' := [(5, (0, c)), (0, (2, 10)), (1, (0, n)), (2, (0, c)), (3, (1, a))]) (st' := [(0, 39), (0, 0), (0, n)]) rfl ?_
    refine jcallSN hF (c_X11_within hG n 0 39 (by omega) (by decide) (by decide)) MW_X11_within wd_845 wd_392 (by decide +kernel) [] rfl rfl (by decide) (Nat.le_of_ble_eq_true rfl) (by decide) (kB (fun h_2 => ?_) (fun h_2 => absurd (by omega) h_2))
    refine jif_eq hF (off := 28) 48 (by decide +kernel) (by decide) (by decide) (fun h => absurd h (by decide)) (fun _ => ?_)
    refine jblk hF [(.iload 5, 2), (.iconst 0, 1), (.iconst 4, 1)] (by decide +kernel) (pc' := 27) (lo' := [(5, (0, c)), (0, (2, 10)), (1, (0, n)), (2, (0, c)), (3, (1, a))]) (st' := [(0, 4), (0, 0), (0, c)]) rfl ?_
    refine jcallSN hF (c_X11_within hG c 0 4 (by omega) (by decide) (by decide)) MW_X11_within wd_845 wd_392 (by decide +kernel) [] rfl rfl (by decide) (Nat.le_of_ble_eq_true rfl) (by decide) (kB (fun h_4 => ?_) (fun h_4 => absurd (by omega) h_4))
    refine jif_eq hF (off := 18) 48 (by decide +kernel) (by decide) (by decide) (fun h => absurd h (by decide)) (fun _ => ?_)
    refine jblk hF [(.aload_n 0, 1)] (by decide +kernel) (pc' := 34) (lo' := [(5, (0, c)), (0, (2, 10)), (1, (0, n)), (2, (0, c)), (3, (1, a))]) (st' := [(2, 10)]) rfl ?_
    refine jget hF 3 2 2 2 rfl (by decide) (by decide) rfl wd_202 (by decide +kernel) (by exact hK.k10) ?_
    rw [HR.r10_2 hR]
    refine jblk hF [(.iload_n 1, 1), (.iconst 5, 1), (.imul, 1), (.iload 5, 2), (.iadd, 1)] (by decide +kernel) (pc' := 43) (lo' := [(5, (0, c)), (0, (2, 10)), (1, (0, n)), (2, (0, c)), (3, (1, a))]) (st' := [(0, (n * 5) + c), (2, 13)]) rfl ?_
    refine jdup2 hF (by show ¬ (0 : Nat) = 1; decide) (by show ¬ (2 : Nat) = 1; decide) (by decide +kernel) ?_
    refine jlald hF (by decide +kernel) (by exact hK.k13) (by omega) (by have := hK.l13; omega) ?_
    refine jblk hF [(.lload_n 3, 1), (.ladd, 1)] (by decide +kernel) (pc' := 47) (lo' := [(5, (0, c)), (0, (2, 10)), (1, (0, n)), (2, (0, c)), (3, (1, a))]) (st' := [(1, (mem 13 ((n * 5) + c)) + a), (0, (n * 5) + c), (2, 13)]) rfl ?_
    refine jlast hF (by decide +kernel) (by decide) (by exact hK.k13) (by omega) (by have := hK.l13; omega) ?_
    refine jvret hF hr (by decide +kernel) ?_
    exact lMV ⟨(HR.s hR (by omega)), by first | (rw [hsl.1 (by omega)]; done) | (rw [hsl.2 (by omega)]; done)⟩
  · refine jblk hF [(.iconst 4, 1)] (by decide +kernel) (pc' := 7) (lo' := [(0, (2, 10)), (1, (0, n)), (2, (0, c)), (3, (1, a))]) (st' := [(0, 4)]) rfl ?_
    refine jgoto hF (off := 4) 11 (by decide +kernel) (by decide) ?_
    refine jblk hF [(.istore 5, 2), (.iload_n 1, 1), (.iconst 0, 1), (.bipush 39, 2)] (by decide +kernel) (pc' := 17) (lo' := [(5, (0, 4)), (0, (2, 10)), (1, (0, n)), (2, (0, c)), (3, (1, a))]) (st' := [(0, 39), (0, 0), (0, n)]) rfl ?_
    refine jcallSN hF (c_X11_within hG n 0 39 (by omega) (by decide) (by decide)) MW_X11_within wd_845 wd_392 (by decide +kernel) [] rfl rfl (by decide) (Nat.le_of_ble_eq_true rfl) (by decide) (kB (fun h_6 => ?_) (fun h_6 => absurd (by omega) h_6))
    refine jif_eq hF (off := 28) 48 (by decide +kernel) (by decide) (by decide) (fun h => absurd h (by decide)) (fun _ => ?_)
    refine jblk hF [(.iload 5, 2), (.iconst 0, 1), (.iconst 4, 1)] (by decide +kernel) (pc' := 27) (lo' := [(5, (0, 4)), (0, (2, 10)), (1, (0, n)), (2, (0, c)), (3, (1, a))]) (st' := [(0, 4), (0, 0), (0, 4)]) rfl ?_
    refine jcallSN hF (c_X11_within hG 4 0 4 (by decide) (by decide) (by decide)) MW_X11_within wd_845 wd_392 (by decide +kernel) [] rfl rfl (by decide) (Nat.le_of_ble_eq_true rfl) (by decide) (kB (fun h_8 => ?_) (fun h_8 => absurd (by omega) h_8))
    refine jif_eq hF (off := 18) 48 (by decide +kernel) (by decide) (by decide) (fun h => absurd h (by decide)) (fun _ => ?_)
    refine jblk hF [(.aload_n 0, 1)] (by decide +kernel) (pc' := 34) (lo' := [(5, (0, 4)), (0, (2, 10)), (1, (0, n)), (2, (0, c)), (3, (1, a))]) (st' := [(2, 10)]) rfl ?_
    refine jget hF 3 2 2 2 rfl (by decide) (by decide) rfl wd_202 (by decide +kernel) (by exact hK.k10) ?_
    rw [HR.r10_2 hR]
    refine jblk hF [(.iload_n 1, 1), (.iconst 5, 1), (.imul, 1), (.iload 5, 2), (.iadd, 1)] (by decide +kernel) (pc' := 43) (lo' := [(5, (0, 4)), (0, (2, 10)), (1, (0, n)), (2, (0, c)), (3, (1, a))]) (st' := [(0, (n * 5) + 4), (2, 13)]) rfl ?_
    refine jdup2 hF (by show ¬ (0 : Nat) = 1; decide) (by show ¬ (2 : Nat) = 1; decide) (by decide +kernel) ?_
    refine jlald hF (by decide +kernel) (by exact hK.k13) (by omega) (by have := hK.l13; omega) ?_
    refine jblk hF [(.lload_n 3, 1), (.ladd, 1)] (by decide +kernel) (pc' := 47) (lo' := [(5, (0, 4)), (0, (2, 10)), (1, (0, n)), (2, (0, c)), (3, (1, a))]) (st' := [(1, (mem 13 ((n * 5) + 4)) + a), (0, (n * 5) + 4), (2, 13)]) rfl ?_
    refine jlast hF (by decide +kernel) (by decide) (by exact hK.k13) (by omega) (by have := hK.l13; omega) ?_
    refine jvret hF hr (by decide +kernel) ?_
    exact lMV ⟨(HR.s hR (by omega)), by first | (rw [hsl.1 (by omega)]; done) | (rw [hsl.2 (by omega)]; done)⟩
set_option maxHeartbeats 4000000 in
set_option maxRecDepth 100000 in
theorem c_X2_difference {l : Launch} {g : GP} (hG : GH g) {kd : Int → Nat} {ln : Int → Int} {mem : Int → Int → Int} {sz : Nat} (hK : HK kd ln) (hR : HR mem) (n t : Int) (hnt : 0 ≤ t ∧ t ≤ 5 ∧ t ≤ n ∧ n < 40) : MT l g yX2_difference cX2_difference 8 (some .long) 0 0 0 [(2, 10), (0, n), (0, t)] kd ln mem sz (pV (1, difF (mem 11) n t (t + 1).toNat) kd ln mem sz) := by
  refine MT_of hG (by decide +kernel) (Nat.le_of_ble_eq_true rfl) (fun z hF hr hn => ?_)
  refine jlconst hF (n := 0) 0 rfl (by decide +kernel) ?_
  refine jblk hF [(.lstore_n 3, 1)] (by decide +kernel) (pc' := 2) (lo' := [(3, (1, 0)), (0, (2, 10)), (1, (0, n)), (2, (0, t))]) (st' := []) rfl ?_
  refine jlconst hF (n := 1) 1 rfl (by decide +kernel) ?_
  refine jblk hF [(.lstore 5, 2), (.iconst 0, 1), (.istore 7, 2)] (by decide +kernel) (pc' := 8) (lo' := [(7, (0, 0)), (5, (1, 1)), (3, (1, 0)), (0, (2, 10)), (1, (0, n)), (2, (0, t))]) (st' := []) rfl ?_
  have L_2 : ∀ (fu_3 : Nat) (s : Int) (c : Int) (i : Int), (0 ≤ i ∧ i ≤ t + 1) → (s = difF (mem 11) n t i.toNat) → (c = cfI t i) →  (t + 1 - i).toNat < fu_3 → J z g 8 0 0 (QM z g 0 0 (pV (1, difF (mem 11) n t (t + 1).toNat) kd ln mem sz)) 8 [(0, (2, 10)), (1, (0, n)), (2, (0, t)), (3, (1, s)), (5, (1, c)), (7, (0, i))] [] kd ln mem sz := by
    intro fu_3
    induction fu_3 with
    | zero => intro s c i _ _ _ hm; omega
    | succ fu_3 ih_1 =>
      intro s c i hi hs hc hm
      refine jblk hF [(.iload 7, 2), (.iload_n 2, 1)] (by decide +kernel) (pc' := 11) (lo' := [(0, (2, 10)), (1, (0, n)), (2, (0, t)), (3, (1, s)), (5, (1, c)), (7, (0, i))]) (st' := [(0, t), (0, i)]) rfl ?_
      refine jicmp_gt hF (off := 47) 58 (by decide +kernel) (by decide) (by omega) (by omega) (fun h_4 => ?_) (fun h_4 => ?_)
      · refine jblk hF [(.lload_n 3, 1)] (by decide +kernel) (pc' := 59) (lo' := [(0, (2, 10)), (1, (0, n)), (2, (0, t)), (3, (1, s)), (5, (1, c)), (7, (0, i))]) (st' := [(1, s)]) rfl ?_
        refine jlret hF hr (by decide +kernel) ?_
        exact lV (by (rw [hs, show i = t + 1 by omega]))
      · refine jblk hF [(.iload 7, 2), (.iload_n 1, 1)] (by decide +kernel) (pc' := 17) (lo' := [(0, (2, 10)), (1, (0, n)), (2, (0, t)), (3, (1, s)), (5, (1, c)), (7, (0, i))]) (st' := [(0, n), (0, i)]) rfl ?_
        refine jicmp_gt hF (off := 41) 58 (by decide +kernel) (by decide) (by omega) (by omega) (fun h_5 => ?_) (fun h_5 => ?_)
        · refine jblk hF [(.lload_n 3, 1)] (by decide +kernel) (pc' := 59) (lo' := [(0, (2, 10)), (1, (0, n)), (2, (0, t)), (3, (1, s)), (5, (1, c)), (7, (0, i))]) (st' := [(1, s)]) rfl ?_
          refine jlret hF hr (by decide +kernel) ?_
          exact lV (by (rw [hs, show i = t + 1 by omega]))
        · have hcs := cf_s (t := t) (i := i) (by omega) (by omega)
          have hcm := cf_mul (t := t) (i := i) (by omega) (by omega)
          rw [← hc] at hcm
          refine jblk hF [(.lload_n 3, 1), (.lload 5, 2), (.aload_n 0, 1)] (by decide +kernel) (pc' := 24) (lo' := [(0, (2, 10)), (1, (0, n)), (2, (0, t)), (3, (1, s)), (5, (1, c)), (7, (0, i))]) (st' := [(2, 10), (1, c), (1, s)]) rfl ?_
          refine jget hF 3 0 2 0 rfl (by decide) (by decide) rfl wd_198 (by decide +kernel) (by exact hK.k10) ?_
          rw [HR.r10_0 hR]
          refine jblk hF [(.iload_n 1, 1), (.iload 7, 2), (.isub, 1)] (by decide +kernel) (pc' := 31) (lo' := [(0, (2, 10)), (1, (0, n)), (2, (0, t)), (3, (1, s)), (5, (1, c)), (7, (0, i))]) (st' := [(0, n - i), (2, 11), (1, c), (1, s)]) rfl ?_
          refine jlald hF (by decide +kernel) (by exact hK.k11) (by omega) (by have := hK.l11; omega) ?_
          refine jblk hF [(.lmul, 1), (.ladd, 1), (.lstore_n 3, 1), (.lload 5, 2), (.lneg, 1), (.iload_n 2, 1), (.iload 7, 2), (.isub, 1)] (by decide +kernel) (pc' := 42) (lo' := [(3, (1, s + (c * (mem 11 (n - i))))), (0, (2, 10)), (1, (0, n)), (2, (0, t)), (5, (1, c)), (7, (0, i))]) (st' := [(0, t - i), (1, -c)]) rfl ?_
          refine ji2l hF (by decide +kernel) (by omega) ?_
          refine jblk hF [(.lmul, 1), (.iload 7, 2), (.iconst 1, 1), (.iadd, 1)] (by decide +kernel) (pc' := 48) (lo' := [(3, (1, s + (c * (mem 11 (n - i))))), (0, (2, 10)), (1, (0, n)), (2, (0, t)), (5, (1, c)), (7, (0, i))]) (st' := [(0, i + 1), (1, (-c) * (t - i))]) rfl ?_
          refine ji2l hF (by decide +kernel) (by omega) ?_
          refine jldiv hF (by decide +kernel) (by omega) (by omega) (by omega) ?_
          refine jblk hF [(.lstore 5, 2), (.iinc 7 1, 3)] (by decide +kernel) (pc' := 55) (lo' := [(7, (0, i + 1)), (5, (1, Int.tdiv ((-c) * (t - i)) (i + 1))), (3, (1, s + (c * (mem 11 (n - i))))), (0, (2, 10)), (1, (0, n)), (2, (0, t))]) (st' := []) rfl ?_
          refine jgoto hF (off := (-47)) 8 (by decide +kernel) (by decide) ?_
          refine jsub [3, 4, 5, 2, 1, 0] rfl ?_
          refine ih_1 (s + (c * (mem 11 (n - i)))) (Int.tdiv ((-c) * (t - i)) (i + 1)) (i + 1) ?_ ?_ ?_ ?_
          · omega
          · (exact dif_step hi.1 hs hc)
          · (rw [hc]; exact hcs.1)
          · omega
  refine jsub [3, 4, 5, 2, 1, 0] rfl ?_
  refine L_2 _ 0 1 0 ?_ ?_ ?_ (Nat.lt_succ_self _)
  · omega
  · rfl
  · (unfold cfI sgI; rfl)
set_option maxHeartbeats 4000000 in
set_option maxRecDepth 100000 in
theorem c_X2_makeLine {l : Launch} {g : GP} (hG : GH g) {kd : Int → Nat} {ln : Int → Int} {mem : Int → Int → Int} {sz : Nat} (hK : HK kd ln) (hR : HR mem) (n o : Int) (hno : 1 ≤ n ∧ n < 40 ∧ 1 ≤ o ∧ o ≤ 4) : MT l g yX2_makeLine cX2_makeLine 6 none 1 0 0 [(2, 10), (0, n), (0, o)] kd ln mem sz (pMV (fun mem' => HR mem' ∧ (MLN mem mem' n o)) kd ln sz) := by
  refine MT_of hG (by decide +kernel) (Nat.le_of_ble_eq_true rfl) (fun z hF hr hn => ?_)
  have hl11 := hK.l11
  have hl12 := hK.l12
  refine jblk hF [(.iload_n 1, 1), (.iconst 5, 1), (.imul, 1), (.istore_n 3, 1), (.iload_n 3, 1), (.iconst 5, 1), (.isub, 1), (.istore 4, 2), (.iload 4, 2)] (by decide +kernel) (pc' := 11) (lo' := [(4, (0, (n * 5) - 5)), (3, (0, n * 5)), (0, (2, 10)), (1, (0, n)), (2, (0, o))]) (st' := [(0, (n * 5) - 5)]) rfl ?_
  refine jif_lt hF (off := 32) 43 (by decide +kernel) (by decide) (by omega) (fun h_1 => ?_) (fun h_1 => ?_)
  · exfalso; omega
  · refine jblk hF [(.iload_n 3, 1), (.iconst 5, 1), (.iadd, 1), (.aload_n 0, 1)] (by decide +kernel) (pc' := 18) (lo' := [(4, (0, (n * 5) - 5)), (3, (0, n * 5)), (0, (2, 10)), (1, (0, n)), (2, (0, o))]) (st' := [(2, 10), (0, (n * 5) + 5)]) rfl ?_
    refine jget hF 3 1 2 1 rfl (by decide) (by decide) rfl wd_200 (by decide +kernel) (by exact hK.k10) ?_
    rw [HR.r10_1 hR]
    refine jalen hF 1 (by decide) (by decide +kernel) (by exact hK.k12) ?_
    refine jicmp_gt hF (off := 21) 43 (by decide +kernel) (by decide) (by omega) (by omega) (fun h_2 => ?_) (fun h_2 => ?_)
    · exfalso; omega
    · refine jblk hF [(.iload_n 1, 1), (.aload_n 0, 1)] (by decide +kernel) (pc' := 27) (lo' := [(4, (0, (n * 5) - 5)), (3, (0, n * 5)), (0, (2, 10)), (1, (0, n)), (2, (0, o))]) (st' := [(2, 10), (0, n)]) rfl ?_
      refine jget hF 3 0 2 0 rfl (by decide) (by decide) rfl wd_198 (by decide +kernel) (by exact hK.k10) ?_
      rw [HR.r10_0 hR]
      refine jalen hF 1 (by decide) (by decide +kernel) (by exact hK.k11) ?_
      refine jicmp_ge hF (off := 12) 43 (by decide +kernel) (by decide) (by omega) (by omega) (fun h_3 => ?_) (fun h_3 => ?_)
      · exfalso; omega
      · refine jblk hF [(.iload_n 2, 1), (.iconst 1, 1), (.iconst 4, 1)] (by decide +kernel) (pc' := 37) (lo' := [(4, (0, (n * 5) - 5)), (3, (0, n * 5)), (0, (2, 10)), (1, (0, n)), (2, (0, o))]) (st' := [(0, 4), (0, 1), (0, o)]) rfl ?_
        refine jcallSN hF (c_X11_within hG o 1 4 (by omega) (by decide) (by decide)) MW_X11_within wd_845 wd_392 (by decide +kernel) [] rfl rfl (by decide) (Nat.le_of_ble_eq_true rfl) (by decide) (kB (fun h_4 => ?_) (fun h_4 => absurd (by omega) h_4))
        refine jif_ne hF (off := 4) 44 (by decide +kernel) (by decide) (by decide) (fun _ => ?_) (fun h => absurd h (by decide))
        refine jblk hF [(.aload_n 0, 1)] (by decide +kernel) (pc' := 45) (lo' := [(4, (0, (n * 5) - 5)), (3, (0, n * 5)), (0, (2, 10)), (1, (0, n)), (2, (0, o))]) (st' := [(2, 10)]) rfl ?_
        refine jget hF 3 1 2 1 rfl (by decide) (by decide) rfl wd_200 (by decide +kernel) (by exact hK.k10) ?_
        rw [HR.r10_1 hR]
        refine jblk hF [(.iload_n 3, 1), (.iload_n 2, 1), (.iadd, 1), (.aload_n 0, 1)] (by decide +kernel) (pc' := 52) (lo' := [(4, (0, (n * 5) - 5)), (3, (0, n * 5)), (0, (2, 10)), (1, (0, n)), (2, (0, o))]) (st' := [(2, 10), (0, (n * 5) + o), (2, 12)]) rfl ?_
        refine jget hF 3 1 2 1 rfl (by decide) (by decide) rfl wd_200 (by decide +kernel) (by exact hK.k10) ?_
        rw [HR.r10_1 hR]
        refine jblk hF [(.iload 4, 2), (.iload_n 2, 1), (.iadd, 1)] (by decide +kernel) (pc' := 59) (lo' := [(4, (0, (n * 5) - 5)), (3, (0, n * 5)), (0, (2, 10)), (1, (0, n)), (2, (0, o))]) (st' := [(0, ((n * 5) - 5) + o), (2, 12), (0, (n * 5) + o), (2, 12)]) rfl ?_
        refine jlald hF (by decide +kernel) (by exact hK.k12) (by omega) (by have := hK.l12; omega) ?_
        refine jlast hF (by decide +kernel) (by decide) (by exact hK.k12) (by omega) (by have := hK.l12; omega) ?_
        refine jblk hF [(.iload_n 2, 1), (.iconst 1, 1), (.isub, 1), (.istore 5, 2)] (by decide +kernel) (pc' := 66) (lo' := [(5, (0, o - 1)), (4, (0, (n * 5) - 5)), (3, (0, n * 5)), (0, (2, 10)), (1, (0, n)), (2, (0, o))]) (st' := []) rfl ?_
        have L_7 : ∀ (fu_8 : Nat) (c : Int) (m : Int → Int → Int), (HR m) → (MLJ mem m n o c) → (-1 ≤ c ∧ c ≤ o - 1) →  (c + 1).toNat < fu_8 → J z g 6 0 0 (QM z g 0 0 (pMV (fun mem' => HR mem' ∧ (MLN mem mem' n o)) kd ln sz)) 66 [(0, (2, 10)), (1, (0, n)), (2, (0, o)), (3, (0, n * 5)), (4, (0, (n * 5) - 5)), (5, (0, c))] [] kd ln m sz := by
          intro fu_8
          induction fu_8 with
          | zero => intro c m _ _ _ hm; omega
          | succ fu_8 ih_6 =>
            intro c m hR_m hj hcb hm
            refine jblk hF [(.iload 5, 2)] (by decide +kernel) (pc' := 68) (lo' := [(0, (2, 10)), (1, (0, n)), (2, (0, o)), (3, (0, n * 5)), (4, (0, (n * 5) - 5)), (5, (0, c))]) (st' := [(0, c)]) rfl ?_
            refine jif_lt hF (off := 50) 118 (by decide +kernel) (by decide) (by omega) (fun h_9 => ?_) (fun h_9 => ?_)
            · refine jblk hF [(.aload_n 0, 1)] (by decide +kernel) (pc' := 119) (lo' := [(0, (2, 10)), (1, (0, n)), (2, (0, o)), (3, (0, n * 5)), (4, (0, (n * 5) - 5)), (5, (0, c))]) (st' := [(2, 10)]) rfl ?_
              refine jget hF 3 0 2 0 rfl (by decide) (by decide) rfl wd_198 (by decide +kernel) (by exact hK.k10) ?_
              rw [HR.r10_0 hR_m]
              refine jblk hF [(.iload_n 1, 1), (.aload_n 0, 1)] (by decide +kernel) (pc' := 124) (lo' := [(0, (2, 10)), (1, (0, n)), (2, (0, o)), (3, (0, n * 5)), (4, (0, (n * 5) - 5)), (5, (0, c))]) (st' := [(2, 10), (0, n), (2, 11)]) rfl ?_
              refine jget hF 3 1 2 1 rfl (by decide) (by decide) rfl wd_200 (by decide +kernel) (by exact hK.k10) ?_
              rw [HR.r10_1 hR_m]
              refine jblk hF [(.iload_n 3, 1)] (by decide +kernel) (pc' := 128) (lo' := [(0, (2, 10)), (1, (0, n)), (2, (0, o)), (3, (0, n * 5)), (4, (0, (n * 5) - 5)), (5, (0, c))]) (st' := [(0, n * 5), (2, 12), (0, n), (2, 11)]) rfl ?_
              refine jlald hF (by decide +kernel) (by exact hK.k12) (by omega) (by have := hK.l12; omega) ?_
              refine jblk hF [(.aload_n 0, 1)] (by decide +kernel) (pc' := 130) (lo' := [(0, (2, 10)), (1, (0, n)), (2, (0, o)), (3, (0, n * 5)), (4, (0, (n * 5) - 5)), (5, (0, c))]) (st' := [(2, 10), (1, m 12 (n * 5)), (0, n), (2, 11)]) rfl ?_
              refine jget hF 3 2 2 2 rfl (by decide) (by decide) rfl wd_202 (by decide +kernel) (by exact hK.k10) ?_
              rw [HR.r10_2 hR_m]
              refine jblk hF [(.iload_n 3, 1), (.iconst 4, 1), (.iadd, 1)] (by decide +kernel) (pc' := 136) (lo' := [(0, (2, 10)), (1, (0, n)), (2, (0, o)), (3, (0, n * 5)), (4, (0, (n * 5) - 5)), (5, (0, c))]) (st' := [(0, (n * 5) + 4), (2, 13), (1, m 12 (n * 5)), (0, n), (2, 11)]) rfl ?_
              refine jlald hF (by decide +kernel) (by exact hK.k13) (by omega) (by have := hK.l13; omega) ?_
              refine jblk hF [(.ladd, 1)] (by decide +kernel) (pc' := 138) (lo' := [(0, (2, 10)), (1, (0, n)), (2, (0, o)), (3, (0, n * 5)), (4, (0, (n * 5) - 5)), (5, (0, c))]) (st' := [(1, (m 12 (n * 5)) + (m 13 ((n * 5) + 4))), (0, n), (2, 11)]) rfl ?_
              refine jlast hF (by decide +kernel) (by decide) (by exact hK.k11) (by omega) (by have := hK.l11; omega) ?_
              refine jvret hF hr (by decide +kernel) ?_
              exact lMV ⟨(HR.s hR_m (by omega)), by exact hj.done (by omega) (by omega) rfl⟩
            · refine jblk hF [(.aload_n 0, 1)] (by decide +kernel) (pc' := 72) (lo' := [(0, (2, 10)), (1, (0, n)), (2, (0, o)), (3, (0, n * 5)), (4, (0, (n * 5) - 5)), (5, (0, c))]) (st' := [(2, 10)]) rfl ?_
              refine jget hF 3 1 2 1 rfl (by decide) (by decide) rfl wd_200 (by decide +kernel) (by exact hK.k10) ?_
              rw [HR.r10_1 hR_m]
              refine jblk hF [(.iload_n 3, 1), (.iload 5, 2), (.iadd, 1), (.aload_n 0, 1)] (by decide +kernel) (pc' := 80) (lo' := [(0, (2, 10)), (1, (0, n)), (2, (0, o)), (3, (0, n * 5)), (4, (0, (n * 5) - 5)), (5, (0, c))]) (st' := [(2, 10), (0, (n * 5) + c), (2, 12)]) rfl ?_
              refine jget hF 3 1 2 1 rfl (by decide) (by decide) rfl wd_200 (by decide +kernel) (by exact hK.k10) ?_
              rw [HR.r10_1 hR_m]
              refine jblk hF [(.iload 4, 2), (.iload 5, 2), (.iadd, 1)] (by decide +kernel) (pc' := 88) (lo' := [(0, (2, 10)), (1, (0, n)), (2, (0, o)), (3, (0, n * 5)), (4, (0, (n * 5) - 5)), (5, (0, c))]) (st' := [(0, ((n * 5) - 5) + c), (2, 12), (0, (n * 5) + c), (2, 12)]) rfl ?_
              refine jlald hF (by decide +kernel) (by exact hK.k12) (by omega) (by have := hK.l12; omega) ?_
              refine jblk hF [(.aload_n 0, 1)] (by decide +kernel) (pc' := 90) (lo' := [(0, (2, 10)), (1, (0, n)), (2, (0, o)), (3, (0, n * 5)), (4, (0, (n * 5) - 5)), (5, (0, c))]) (st' := [(2, 10), (1, m 12 (((n * 5) - 5) + c)), (0, (n * 5) + c), (2, 12)]) rfl ?_
              refine jget hF 3 1 2 1 rfl (by decide) (by decide) rfl wd_200 (by decide +kernel) (by exact hK.k10) ?_
              rw [HR.r10_1 hR_m]
              refine jblk hF [(.iload_n 3, 1), (.iload 5, 2), (.iadd, 1), (.iconst 1, 1), (.iadd, 1)] (by decide +kernel) (pc' := 99) (lo' := [(0, (2, 10)), (1, (0, n)), (2, (0, o)), (3, (0, n * 5)), (4, (0, (n * 5) - 5)), (5, (0, c))]) (st' := [(0, ((n * 5) + c) + 1), (2, 12), (1, m 12 (((n * 5) - 5) + c)), (0, (n * 5) + c), (2, 12)]) rfl ?_
              refine jlald hF (by decide +kernel) (by exact hK.k12) (by omega) (by have := hK.l12; omega) ?_
              refine jblk hF [(.ladd, 1), (.aload_n 0, 1)] (by decide +kernel) (pc' := 102) (lo' := [(0, (2, 10)), (1, (0, n)), (2, (0, o)), (3, (0, n * 5)), (4, (0, (n * 5) - 5)), (5, (0, c))]) (st' := [(2, 10), (1, (m 12 (((n * 5) - 5) + c)) + (m 12 (((n * 5) + c) + 1))), (0, (n * 5) + c), (2, 12)]) rfl ?_
              refine jget hF 3 2 2 2 rfl (by decide) (by decide) rfl wd_202 (by decide +kernel) (by exact hK.k10) ?_
              rw [HR.r10_2 hR_m]
              refine jblk hF [(.iload_n 3, 1), (.iload 5, 2), (.iadd, 1)] (by decide +kernel) (pc' := 109) (lo' := [(0, (2, 10)), (1, (0, n)), (2, (0, o)), (3, (0, n * 5)), (4, (0, (n * 5) - 5)), (5, (0, c))]) (st' := [(0, (n * 5) + c), (2, 13), (1, (m 12 (((n * 5) - 5) + c)) + (m 12 (((n * 5) + c) + 1))), (0, (n * 5) + c), (2, 12)]) rfl ?_
              refine jlald hF (by decide +kernel) (by exact hK.k13) (by omega) (by have := hK.l13; omega) ?_
              refine jblk hF [(.ladd, 1)] (by decide +kernel) (pc' := 111) (lo' := [(0, (2, 10)), (1, (0, n)), (2, (0, o)), (3, (0, n * 5)), (4, (0, (n * 5) - 5)), (5, (0, c))]) (st' := [(1, ((m 12 (((n * 5) - 5) + c)) + (m 12 (((n * 5) + c) + 1))) + (m 13 ((n * 5) + c))), (0, (n * 5) + c), (2, 12)]) rfl ?_
              refine jlast hF (by decide +kernel) (by decide) (by exact hK.k12) (by omega) (by have := hK.l12; omega) ?_
              refine jblk hF [(.iinc 5 (-1), 3)] (by decide +kernel) (pc' := 115) (lo' := [(5, (0, c + (-1))), (0, (2, 10)), (1, (0, n)), (2, (0, o)), (3, (0, n * 5)), (4, (0, (n * 5) - 5))]) (st' := []) rfl ?_
              refine jgoto hF (off := (-49)) 66 (by decide +kernel) (by decide) ?_
              refine jsub [1, 2, 3, 4, 5, 0] rfl ?_
              refine ih_6 (c + (-1)) (set2 m 12 ((n * 5) + c) (((m 12 (((n * 5) - 5) + c)) + (m 12 (((n * 5) + c) + 1))) + (m 13 ((n * 5) + c)))) ?_ ?_ ?_ ?_
              · exact (HR.s hR_m (by omega))
              · exact hj.step (by omega) (by omega) (by omega) rfl
              · omega
              · omega
        refine jsub [3, 4, 5, 2, 1, 0] rfl ?_
        refine L_7 _ (o - 1) (set2 mem 12 ((n * 5) + o) (mem 12 (((n * 5) - 5) + o))) ?_ ?_ ?_ (Nat.lt_succ_self _)
        · exact (HR.s hR (by omega))
        · exact MLJ.start (by omega)
        · omega
set_option maxHeartbeats 4000000 in
set_option maxRecDepth 100000 in
theorem c_X2_keptOf {l : Launch} {g : GP} (hG : GH g) {kd : Int → Nat} {ln : Int → Int} {mem : Int → Int → Int} {sz : Nat} (hK : HK kd ln) (hR : HR mem) (p n : Int) (hTN : TNS g) (hkp : kd p = 5) (hp0 : 0 ≤ p) (hnc : 0 ≤ n ∧ n < 40 ∧ 0 ≤ mem p 6 ∧ mem p 6 ≤ 6 ∧ 0 ≤ mem p 8 ∧ mem p 8 ≤ 2) : MT l g yX2_keptOf cX2_keptOf 3 (some .long) 3 0 0 [(2, 10), (2, p), (0, n)] kd ln mem sz (pV (1, nearBy (wL (mem 11 n)) (10 ^ (mem p 6).toNat) (mem p 8)) kd ln mem sz) := by
  refine MT_of hG (by decide +kernel) (Nat.le_of_ble_eq_true rfl) (fun z hF hr hn => ?_)
  have hwi := wL_in (mem 11 n)
  have htb := ten_bd (p := mem p 6) (by omega)
  refine jblk hF [(.aload_n 0, 1)] (by decide +kernel) (pc' := 1) (lo' := [(0, (2, 10)), (1, (2, p)), (2, (0, n))]) (st' := [(2, 10)]) rfl ?_
  refine jget hF 3 0 2 0 rfl (by decide) (by decide) rfl wd_198 (by decide +kernel) (by exact hK.k10) ?_
  rw [HR.r10_0 hR]
  refine jblk hF [(.iload_n 2, 1)] (by decide +kernel) (pc' := 5) (lo' := [(0, (2, 10)), (1, (2, p)), (2, (0, n))]) (st' := [(0, n), (2, 11)]) rfl ?_
  refine jlald hF (by decide +kernel) (by exact hK.k11) (by omega) (by have := hK.l11; omega) ?_
  refine jwL0 ?_
  refine jblk hF [(.aload_n 1, 1)] (by decide +kernel) (pc' := 7) (lo' := [(0, (2, 10)), (1, (2, p)), (2, (0, n))]) (st' := [(2, p), (1, wL (mem 11 n))]) rfl ?_
  refine jget hF 4 6 0 6 rfl (by decide) (by decide) rfl wd_705 (by decide +kernel) (by first | assumption | omega) ?_
  refine jcallSN hF (c_X11_ten hG hK hR (mem p 6) (by assumption) (by omega)) MW_X11_ten wd_991 wd_519 (by decide +kernel) [(1, wL (mem 11 n))] rfl rfl (by decide) (Nat.le_of_ble_eq_true rfl) (by decide) (kV ?_)
  refine jblk hF [(.aload_n 1, 1)] (by decide +kernel) (pc' := 14) (lo' := [(0, (2, 10)), (1, (2, p)), (2, (0, n))]) (st' := [(2, p), (1, 10 ^ (mem p 6).toNat), (1, wL (mem 11 n))]) rfl ?_
  refine jget hF 4 8 0 8 rfl (by decide) (by decide) rfl wd_709 (by decide +kernel) (by first | assumption | omega) ?_
  refine jcallSN hF (c_X11_rounded hG (wL (mem 11 n)) (10 ^ (mem p 6).toNat) (mem p 8) (by omega) (by omega) (by omega)) MW_X11_rounded wd_992 wd_554 (by decide +kernel) [] rfl rfl (by decide) (Nat.le_of_ble_eq_true rfl) (by decide) (kV ?_)
  refine jlret hF hr (by decide +kernel) ?_
  exact lV (by omega)
end
