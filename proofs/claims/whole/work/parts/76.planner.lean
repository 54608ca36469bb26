section
/-! the planner's row -/
def tpV (r : Int → Int) (v : Int) : Nat → Int
  | 0 => v
  | c + 1 => tpV r v c - r c
/-- a pivot taken, columns ahead of c -/
def TPJ (mem m : Int → Int → Int) (p v c x : Int) : Prop := (∀ b j : Int, b ≠ 26 → m b j = mem b j) ∧ (∀ j : Int, 0 ≤ j → j < c → m 26 j = tpV (mem 26) v j.toNat) ∧ (∀ j : Int, c ≤ j → m 26 j = mem 26 j) ∧ x = tpV (mem 26) v c.toNat
theorem TPJ.start (mem : Int → Int → Int) (p v : Int) : TPJ mem mem p v 0 v := ⟨fun _ _ _ => rfl, fun j h1 h2 => by omega, fun _ _ => rfl, rfl⟩
theorem TPJ.step {mem m : Int → Int → Int} {p v c x y : Int} (h : TPJ mem m p v c x) (hc : 0 ≤ c) (hy : y = x - m 26 c) : TPJ mem (set2 m 26 c x) p v (c + 1) y := by
  obtain ⟨h1, h2, h3, h4⟩ := h
  refine ⟨fun b j q => (s2_a q).trans (h1 b j q), fun j q1 q2 => ?_, fun j q => (s2_k (by omega)).trans (h3 j (by omega)), ?_⟩
  · by_cases e : j = c
    · subst e; rw [s2_s]; exact h4
    · rw [s2_k e]; exact h2 j q1 (by omega)
  · rw [show (c + 1).toNat = c.toNat + 1 by omega, tpV, show ((c.toNat : Nat) : Int) = c by omega, ← h4, ← h3 c (Int.le_refl c)]; exact hy
/-- the next made line: columns above c are made -/
def NMJ (mem m : Int → Int → Int) (o c : Int) : Prop := (∀ b j : Int, b ≠ 26 → m b j = mem b j) ∧ (∀ j : Int, o ≤ j → m 26 j = mem 26 j) ∧ (∀ j : Int, 0 ≤ j → j ≤ c → m 26 j = mem 26 j) ∧ ∀ j : Int, 0 ≤ j → c < j → j < o → m 26 j = mem 26 j + m 26 (j + 1)
theorem NMJ.start (mem : Int → Int → Int) (o : Int) : NMJ mem mem o (o - 1) := ⟨fun _ _ _ => rfl, fun _ _ => rfl, fun _ _ _ => rfl, fun j h0 h1 h2 => by omega⟩
theorem NMJ.step {mem m : Int → Int → Int} {o c x : Int} (h : NMJ mem m o c) (hc : 0 ≤ c) (hco : c < o) (hx : x = m 26 c + m 26 (c + 1)) : NMJ mem (set2 m 26 c x) o (c + (-1)) := by
  obtain ⟨h1, h2, h3, h4⟩ := h
  refine ⟨fun b j q => (s2_a q).trans (h1 b j q), fun j q => (s2_k (by omega)).trans (h2 j q), fun j q1 q2 => (s2_k (by omega)).trans (h3 j q1 (by omega)), fun j q0 q1 q2 => ?_⟩
  by_cases e : j = c
  · subst e; rw [s2_s, s2_k (by omega), hx, h3 j q0 (Int.le_refl j)]
  · rw [s2_k e, s2_k (by omega)]; exact h4 j q0 (by omega) q2
def NML (mem mm : Int → Int → Int) (o : Int) : Prop := (∀ b j : Int, b ≠ 26 → mm b j = mem b j) ∧ (∀ j : Int, o ≤ j → mm 26 j = mem 26 j) ∧ ∀ j : Int, 0 ≤ j → j < o → mm 26 j = mem 26 j + mm 26 (j + 1)
theorem NMJ.done {mem m : Int → Int → Int} {o c : Int} (h : NMJ mem m o c) (hc : c < 0) : NML mem m o := ⟨h.1, h.2.1, fun j q1 q2 => h.2.2.2 j q1 (by omega) q2⟩
/-- the row stands for line n of a block without slips -/
def ROWJ (m : Int → Int → Int) (nr : Int → Int) (o n : Int) : Prop := (n ≤ o → ∀ j : Int, 0 ≤ j → j ≤ n → m 26 j = bdiff nr j.toNat n) ∧ (o ≤ n → ∀ j : Int, 0 ≤ j → j ≤ o → m 26 j = rowF nr (fun _ => 0) o 100 n j)
theorem tpV_bd {r nr : Int → Int} {n : Int} (h : ∀ j : Int, 0 ≤ j → j ≤ n - 1 → r j = bdiff nr j.toNat (n - 1)) : ∀ c : Nat, (c : Int) ≤ n → tpV r (nr n) c = bdiff nr c n := by
  intro c
  induction c with
  | zero => intro _; rfl
  | succ c ih =>
    intro hc
    rw [tpV, ih (by omega), bdiff, h c (by omega) (by omega), show ((c : Int)).toNat = c by omega]
theorem mod100 {n : Int} (h : 0 ≤ n ∧ n < 100) : n % 100 = n := Int.emod_eq_of_lt h.1 h.2
theorem ROWJ.piv {mem m : Int → Int → Int} {nr : Int → Int} {o n v : Int} (h : 1 ≤ n → ROWJ mem nr o (n - 1)) (hn : 0 ≤ n ∧ n ≤ o) (ho : 1 ≤ o ∧ o ≤ 4) (hv : v = nr n) (hm : ∀ j : Int, 0 ≤ j → j ≤ n → m 26 j = tpV (mem 26) v j.toNat) : ROWJ m nr o n := by
  have key : ∀ j : Int, 0 ≤ j → j ≤ n → m 26 j = bdiff nr j.toNat n := fun j q1 q2 => by
    rw [hm j q1 q2, hv]
    by_cases e : n = 0
    · have e2 : j = 0 := by omega
      subst e2
      rfl
    · exact tpV_bd (fun i w1 w2 => (h (by omega)).1 (by omega) i w1 w2) j.toNat (by omega)
  refine ⟨fun _ => key, fun q j q1 q2 => ?_⟩
  rw [key j q1 (by omega), rowF_piv (by omega) (by decide) (by omega) (by rw [mod100 (by omega)]; exact hn.2)]
theorem ROWJ.made {mem m : Int → Int → Int} {nr : Int → Int} {o n : Int} (h : ROWJ mem nr o (n - 1)) (hn : o < n ∧ n < 100) (ho : 1 ≤ o ∧ o ≤ 4) (hm : NML mem m o) : ROWJ m nr o n ∧ m 26 0 = numF nr (fun _ => 0) o 100 n := by
  obtain ⟨h1, h2, h3⟩ := hm
  have hq := mod100 (n := n) (by omega)
  have hold := h.2 (by omega)
  have key : ∀ d : Nat, ∀ j : Int, o - j = d → 0 ≤ j → m 26 j = rowF nr (fun _ => 0) o 100 n j := by
    intro d
    induction d with
    | zero =>
      intro j q1 q2
      rw [show j = o by omega, h2 o (Int.le_refl o), hold o (by omega) (Int.le_refl o), rowF_top (n := n) (by omega) (by decide) (by omega) (by omega)]
    | succ d ih =>
      intro j q1 q2
      rw [h3 j q2 (by omega), hold j q2 (by omega), ih (j + 1) (by omega) (by omega), rowF_step (n := n) (by omega) (by decide) q2 (by omega) (by omega)]
      omega
  refine ⟨⟨fun q => by omega, fun _ j q1 q2 => key (o - j).toNat j (by omega) q1⟩, ?_⟩
  rw [key o.toNat 0 (by omega) (Int.le_refl 0), numF_made (by omega) (by decide) (by omega) (by omega)]
  omega
/-- how far a block that starts at s is right -/
def oneR (nr rt : Int → Int) (o e h s n : Int) : Int := if wL (nearBy (wL (numF (fun i => nr (s + i)) (fun _ => 0) o 100 (n - s))) (10 ^ e.toNat) h) = wL (rt n) then 1 else 0
def rcN (nr rt : Int → Int) (o e h s L : Int) : Nat → Int → Int
  | 0, n => n
  | k + 1, n => if n < L ∧ oneR nr rt o e h s n = 1 then rcN nr rt o e h s L k (n + 1) else n
def rcV (nr rt : Int → Int) (o e h s L : Int) : Int := rcN nr rt o e h s L (L - s).toNat s
theorem rcN_s {nr rt : Int → Int} {o e h s L n : Int} (h1 : n < L) (h2 : oneR nr rt o e h s n = 1) : rcN nr rt o e h s L (L - n).toNat n = rcN nr rt o e h s L (L - (n + 1)).toNat (n + 1) := by
  rw [show (L - n).toNat = (L - (n + 1)).toNat + 1 by omega, rcN, if_pos ⟨h1, h2⟩]
theorem rcN_e {nr rt : Int → Int} {o e h s L n : Int} (h2 : ¬ (n < L ∧ oneR nr rt o e h s n = 1)) (k : Nat) : rcN nr rt o e h s L k n = n := by
  cases k with
  | zero => rfl
  | succ k => rw [rcN, if_neg h2]
theorem rcN_bd {nr rt : Int → Int} {o e h s L : Int} : ∀ (k : Nat) (n : Int), n ≤ L → L - n ≤ k → n ≤ rcN nr rt o e h s L k n ∧ rcN nr rt o e h s L k n ≤ L ∧ (∀ i : Int, n ≤ i → i < rcN nr rt o e h s L k n → oneR nr rt o e h s i = 1) ∧ (rcN nr rt o e h s L k n < L → oneR nr rt o e h s (rcN nr rt o e h s L k n) ≠ 1) := by
  intro k
  induction k with
  | zero => intro n h1 h2; refine ⟨Int.le_refl n, h1, fun i q1 q2 => ?_, fun q => ?_⟩ <;> (unfold rcN at *; omega)
  | succ k ih =>
    intro n h1 h2
    rw [rcN]
    by_cases q : n < L ∧ oneR nr rt o e h s n = 1
    · rw [if_pos q]
      obtain ⟨a, b, c, d⟩ := ih (n + 1) (by omega) (by omega)
      refine ⟨by omega, b, fun i q1 q2 => ?_, d⟩
      by_cases w : i = n
      · rw [w]; exact q.2
      · exact c i (by omega) q2
    · rw [if_neg q]
      exact ⟨Int.le_refl n, h1, fun i q1 q2 => by omega, fun w hh => q ⟨w, hh⟩⟩
set_option maxHeartbeats 4000000 in
set_option maxRecDepth 100000 in
theorem c_X4_takePivot {l : Launch} {g : GP} (hG : GH g) {kd : Int → Nat} {ln : Int → Int} {mem : Int → Int → Int} {sz : Nat} (hK : HK kd ln) (hR : HR mem) (p v : Int) (hp : 0 ≤ p ∧ p ≤ 4) : MT l g yX4_takePivot cX4_takePivot 9 none 0 0 0 [(2, 22), (0, p), (1, v)] kd ln mem sz (pMV (fun mem' => HR mem' ∧ ((∀ b j : Int, b ≠ 26 → mem' b j = mem b j) ∧ ∀ j : Int, 0 ≤ j → j ≤ p → mem' 26 j = tpV (mem 26) v j.toNat)) kd ln sz) := by
  refine MT_of hG (by decide +kernel) (Nat.le_of_ble_eq_true rfl) (fun z hF hr hn => ?_)
  refine jblk hF [(.lload_n 2, 1), (.lstore 4, 2), (.iconst 0, 1), (.istore 6, 2)] (by decide +kernel) (pc' := 6) (lo' := [(6, (0, 0)), (4, (1, v)), (0, (2, 22)), (1, (0, p)), (2, (1, v))]) (st' := []) rfl ?_
  have L_2 : ∀ (fu_3 : Nat) (x : Int) (c : Int) (m : Int → Int → Int), (HR m) → (0 ≤ c ∧ c ≤ p + 1) → (TPJ mem m p v c x) →  (p + 1 - c).toNat < fu_3 → J z g 9 0 0 (QM z g 0 0 (pMV (fun mem' => HR mem' ∧ ((∀ b j : Int, b ≠ 26 → mem' b j = mem b j) ∧ ∀ j : Int, 0 ≤ j → j ≤ p → mem' 26 j = tpV (mem 26) v j.toNat)) kd ln sz)) 6 [(0, (2, 22)), (1, (0, p)), (2, (1, v)), (4, (1, x)), (6, (0, c))] [] kd ln m sz := by
    intro fu_3
    induction fu_3 with
    | zero => intro x c m _ _ _ hm; omega
    | succ fu_3 ih_1 =>
      intro x c m hR_m hc hj hm
      refine jblk hF [(.iload 6, 2), (.iload_n 1, 1)] (by decide +kernel) (pc' := 9) (lo' := [(0, (2, 22)), (1, (0, p)), (2, (1, v)), (4, (1, x)), (6, (0, c))]) (st' := [(0, p), (0, c)]) rfl ?_
      refine jicmp_gt hF (off := 40) 49 (by decide +kernel) (by decide) (by omega) (by omega) (fun h_4 => ?_) (fun h_4 => ?_)
      · refine jvret hF hr (by decide +kernel) ?_
        exact lMV ⟨hR_m, by exact ⟨hj.1, fun j h1 h2 => hj.2.1 j h1 (by omega)⟩⟩
      · refine jblk hF [(.iload 6, 2), (.iconst 5, 1)] (by decide +kernel) (pc' := 15) (lo' := [(0, (2, 22)), (1, (0, p)), (2, (1, v)), (4, (1, x)), (6, (0, c))]) (st' := [(0, 5), (0, c)]) rfl ?_
        refine jicmp_ge hF (off := 34) 49 (by decide +kernel) (by decide) (by omega) (by decide) (fun h_5 => ?_) (fun h_5 => ?_)
        · refine jvret hF hr (by decide +kernel) ?_
          exact lMV ⟨hR_m, by exact ⟨hj.1, fun j h1 h2 => hj.2.1 j h1 (by omega)⟩⟩
        · refine jblk hF [(.aload_n 0, 1)] (by decide +kernel) (pc' := 19) (lo' := [(0, (2, 22)), (1, (0, p)), (2, (1, v)), (4, (1, x)), (6, (0, c))]) (st' := [(2, 22)]) rfl ?_
          refine jget hF 5 3 2 3 rfl (by decide) (by decide) rfl wd_265 (by decide +kernel) (by exact hK.k22) ?_
          rw [HR.r22_3 hR_m]
          refine jblk hF [(.iload 6, 2)] (by decide +kernel) (pc' := 24) (lo' := [(0, (2, 22)), (1, (0, p)), (2, (1, v)), (4, (1, x)), (6, (0, c))]) (st' := [(0, c), (2, 26)]) rfl ?_
          refine jlald hF (by decide +kernel) (by exact hK.k26) (by omega) (by have := hK.l26; omega) ?_
          refine jblk hF [(.lstore 7, 2), (.aload_n 0, 1)] (by decide +kernel) (pc' := 28) (lo' := [(7, (1, m 26 c)), (0, (2, 22)), (1, (0, p)), (2, (1, v)), (4, (1, x)), (6, (0, c))]) (st' := [(2, 22)]) rfl ?_
          refine jget hF 5 3 2 3 rfl (by decide) (by decide) rfl wd_265 (by decide +kernel) (by exact hK.k22) ?_
          rw [HR.r22_3 hR_m]
          refine jblk hF [(.iload 6, 2), (.lload 4, 2)] (by decide +kernel) (pc' := 35) (lo' := [(7, (1, m 26 c)), (0, (2, 22)), (1, (0, p)), (2, (1, v)), (4, (1, x)), (6, (0, c))]) (st' := [(1, x), (0, c), (2, 26)]) rfl ?_
          refine jlast hF (by decide +kernel) (by decide) (by exact hK.k26) (by omega) (by have := hK.l26; omega) ?_
          refine jblk hF [(.lload 4, 2), (.lload 7, 2), (.lsub, 1), (.lstore 4, 2), (.iinc 6 1, 3)] (by decide +kernel) (pc' := 46) (lo' := [(6, (0, c + 1)), (4, (1, x - (m 26 c))), (7, (1, m 26 c)), (0, (2, 22)), (1, (0, p)), (2, (1, v))]) (st' := []) rfl ?_
          refine jgoto hF (off := (-40)) 6 (by decide +kernel) (by decide) ?_
          refine jsub [3, 4, 5, 1, 0] rfl ?_
          refine ih_1 (x - (m 26 c)) (c + 1) (set2 m 26 c x) ?_ ?_ ?_ ?_
          · exact (HR.s hR_m (by omega))
          · omega
          · exact hj.step (by omega) rfl
          · omega
  refine jsub [2, 3, 4, 1, 0] rfl ?_
  refine L_2 _ v 0 mem ?_ ?_ ?_ (Nat.lt_succ_self _)
  · exact hR
  · omega
  · exact TPJ.start mem p v
set_option maxHeartbeats 4000000 in
set_option maxRecDepth 100000 in
theorem c_X4_nextMade {l : Launch} {g : GP} (hG : GH g) {kd : Int → Nat} {ln : Int → Int} {mem : Int → Int → Int} {sz : Nat} (hK : HK kd ln) (hR : HR mem) (o : Int) (ho : 1 ≤ o ∧ o ≤ 4) : MT l g yX4_nextMade cX4_nextMade 3 (some .long) 0 0 0 [(2, 22), (0, o)] kd ln mem sz (pMR 1 (fun v mem' => HR mem' ∧ (v = mem' 26 0 ∧ NML mem mem' o)) kd ln sz) := by
  refine MT_of hG (by decide +kernel) (Nat.le_of_ble_eq_true rfl) (fun z hF hr hn => ?_)
  refine jblk hF [(.iload_n 1, 1), (.iconst 1, 1), (.isub, 1), (.istore_n 2, 1)] (by decide +kernel) (pc' := 4) (lo' := [(2, (0, o - 1)), (0, (2, 22)), (1, (0, o))]) (st' := []) rfl ?_
  have L_2 : ∀ (fu_3 : Nat) (c : Int) (m : Int → Int → Int), (HR m) → (-1 ≤ c ∧ c ≤ o - 1) → (NMJ mem m o c) →  (c + 1).toNat < fu_3 → J z g 3 0 0 (QM z g 0 0 (pMR 1 (fun v mem' => HR mem' ∧ (v = mem' 26 0 ∧ NML mem mem' o)) kd ln sz)) 4 [(0, (2, 22)), (1, (0, o)), (2, (0, c))] [] kd ln m sz := by
    intro fu_3
    induction fu_3 with
    | zero => intro c m _ _ _ hm; omega
    | succ fu_3 ih_1 =>
      intro c m hR_m hc hj hm
      refine jblk hF [(.iload_n 2, 1)] (by decide +kernel) (pc' := 5) (lo' := [(0, (2, 22)), (1, (0, o)), (2, (0, c))]) (st' := [(0, c)]) rfl ?_
      refine jif_lt hF (off := 26) 31 (by decide +kernel) (by decide) (by omega) (fun h_4 => ?_) (fun h_4 => ?_)
      · refine jblk hF [(.aload_n 0, 1)] (by decide +kernel) (pc' := 32) (lo' := [(0, (2, 22)), (1, (0, o)), (2, (0, c))]) (st' := [(2, 22)]) rfl ?_
        refine jget hF 5 3 2 3 rfl (by decide) (by decide) rfl wd_265 (by decide +kernel) (by exact hK.k22) ?_
        rw [HR.r22_3 hR_m]
        refine jblk hF [(.iconst 0, 1)] (by decide +kernel) (pc' := 36) (lo' := [(0, (2, 22)), (1, (0, o)), (2, (0, c))]) (st' := [(0, 0), (2, 26)]) rfl ?_
        refine jlald hF (by decide +kernel) (by exact hK.k26) (by omega) (by have := hK.l26; omega) ?_
        refine jlret hF hr (by decide +kernel) ?_
        exact lMR ⟨hR_m, by exact ⟨rfl, hj.done (by omega)⟩⟩
      · refine jblk hF [(.aload_n 0, 1)] (by decide +kernel) (pc' := 9) (lo' := [(0, (2, 22)), (1, (0, o)), (2, (0, c))]) (st' := [(2, 22)]) rfl ?_
        refine jget hF 5 3 2 3 rfl (by decide) (by decide) rfl wd_265 (by decide +kernel) (by exact hK.k22) ?_
        rw [HR.r22_3 hR_m]
        refine jblk hF [(.iload_n 2, 1)] (by decide +kernel) (pc' := 13) (lo' := [(0, (2, 22)), (1, (0, o)), (2, (0, c))]) (st' := [(0, c), (2, 26)]) rfl ?_
        refine jdup2 hF (by show ¬ (0 : Nat) = 1; decide) (by show ¬ (2 : Nat) = 1; decide) (by decide +kernel) ?_
        refine jlald hF (by decide +kernel) (by exact hK.k26) (by omega) (by have := hK.l26; omega) ?_
        refine jblk hF [(.aload_n 0, 1)] (by decide +kernel) (pc' := 16) (lo' := [(0, (2, 22)), (1, (0, o)), (2, (0, c))]) (st' := [(2, 22), (1, m 26 c), (0, c), (2, 26)]) rfl ?_
        refine jget hF 5 3 2 3 rfl (by decide) (by decide) rfl wd_265 (by decide +kernel) (by exact hK.k22) ?_
        rw [HR.r22_3 hR_m]
        refine jblk hF [(.iload_n 2, 1), (.iconst 1, 1), (.iadd, 1)] (by decide +kernel) (pc' := 22) (lo' := [(0, (2, 22)), (1, (0, o)), (2, (0, c))]) (st' := [(0, c + 1), (2, 26), (1, m 26 c), (0, c), (2, 26)]) rfl ?_
        refine jlald hF (by decide +kernel) (by exact hK.k26) (by omega) (by have := hK.l26; omega) ?_
        refine jblk hF [(.ladd, 1)] (by decide +kernel) (pc' := 24) (lo' := [(0, (2, 22)), (1, (0, o)), (2, (0, c))]) (st' := [(1, (m 26 c) + (m 26 (c + 1))), (0, c), (2, 26)]) rfl ?_
        refine jlast hF (by decide +kernel) (by decide) (by exact hK.k26) (by omega) (by have := hK.l26; omega) ?_
        refine jblk hF [(.iinc 2 (-1), 3)] (by decide +kernel) (pc' := 28) (lo' := [(2, (0, c + (-1))), (0, (2, 22)), (1, (0, o))]) (st' := []) rfl ?_
        refine jgoto hF (off := (-24)) 4 (by decide +kernel) (by decide) ?_
        refine jsub [1, 2, 0] rfl ?_
        refine ih_1 (c + (-1)) (set2 m 26 c ((m 26 c) + (m 26 (c + 1)))) ?_ ?_ ?_ ?_
        · exact (HR.s hR_m (by omega))
        · omega
        · exact hj.step (by omega) (by omega) rfl
        · omega
  refine jsub [1, 2, 0] rfl ?_
  refine L_2 _ (o - 1) mem ?_ ?_ ?_ (Nat.lt_succ_self _)
  · exact hR
  · omega
  · exact NMJ.start mem o
set_option maxHeartbeats 4000000 in
set_option maxRecDepth 100000 in
theorem c_X4_reachOf {l : Launch} {g : GP} (hG : GH g) {kd : Int → Nat} {ln : Int → Int} {mem : Int → Int → Int} {sz : Nat} (hK : HK kd ln) (hR : HR mem) (o e s : Int) (hTN : TNS g) (hoe : 1 ≤ o ∧ o ≤ 4 ∧ 0 ≤ e ∧ e ≤ 6 ∧ 0 ≤ s ∧ s ≤ mem 22 4 ∧ 0 ≤ mem 22 4 ∧ mem 22 4 ≤ 40 ∧ 0 ≤ mem 22 6 ∧ mem 22 6 ≤ 2) : MT l g yX4_reachOf cX4_reachOf 9 (some .int) 3 0 0 [(2, 22), (0, o), (0, e), (0, s)] kd ln mem sz (pMR 0 (fun v mem' => HR mem' ∧ (v = rcV (fun i => mem 24 (e * 40 + i)) (mem 23) o e (mem 22 6) s (mem 22 4) ∧ ∀ b j : Int, b ≠ 26 → mem' b j = mem b j)) kd ln sz) := by
  refine MT_of hG (by decide +kernel) (Nat.le_of_ble_eq_true rfl) (fun z hF hr hn => ?_)
  have htb := ten_bd (p := e) (by omega)
  refine jblk hF [(.iload_n 2, 1)] (by decide +kernel) (pc' := 1) (lo' := [(0, (2, 22)), (1, (0, o)), (2, (0, e)), (3, (0, s))]) (st' := [(0, e)]) rfl ?_
  refine jcallSN hF (c_X11_ten hG hK hR e (by assumption) (by omega)) MW_X11_ten wd_1312 wd_519 (by decide +kernel) [] rfl rfl (by decide) (Nat.le_of_ble_eq_true rfl) (by decide) (kV ?_)
  refine jblk hF [(.lstore 4, 2), (.iload_n 3, 1), (.istore 6, 2)] (by decide +kernel) (pc' := 9) (lo' := [(6, (0, s)), (4, (1, 10 ^ e.toNat)), (0, (2, 22)), (1, (0, o)), (2, (0, e)), (3, (0, s))]) (st' := []) rfl ?_
  have L_2 : ∀ (fu_3 : Nat) (n : Int) (m : Int → Int → Int), (HR m) → (s ≤ n ∧ n ≤ mem 22 4) → (∀ b j : Int, b ≠ 26 → m b j = mem b j) → (s + 1 ≤ n → ROWJ m (fun i => mem 24 (e * 40 + (s + i))) o (n - 1 - s)) → (rcV (fun i => mem 24 (e * 40 + i)) (mem 23) o e (mem 22 6) s (mem 22 4) = rcN (fun i => mem 24 (e * 40 + i)) (mem 23) o e (mem 22 6) s (mem 22 4) (mem 22 4 - n).toNat n) →  (mem 22 4 - n).toNat < fu_3 → J z g 9 0 0 (QM z g 0 0 (pMR 0 (fun v mem' => HR mem' ∧ (v = rcV (fun i => mem 24 (e * 40 + i)) (mem 23) o e (mem 22 6) s (mem 22 4) ∧ ∀ b j : Int, b ≠ 26 → mem' b j = mem b j)) kd ln sz)) 9 [(0, (2, 22)), (1, (0, o)), (2, (0, e)), (3, (0, s)), (4, (1, 10 ^ e.toNat)), (6, (0, n))] [] kd ln m sz := by
    intro fu_3
    induction fu_3 with
    | zero => intro n m _ _ _ _ _ hm; omega
    | succ fu_3 ih_1 =>
      intro n m hR_m hnn hf hro hrc hm
      have f4 : m 22 4 = mem 22 4 := hf 22 4 (by decide)
      have f6 : m 22 6 = mem 22 6 := hf 22 6 (by decide)
      have f24 : ∀ j : Int, m 24 j = mem 24 j := fun j => hf 24 j (by decide)
      have f23 : ∀ j : Int, m 23 j = mem 23 j := fun j => hf 23 j (by decide)
      refine jblk hF [(.iload 6, 2), (.aload_n 0, 1)] (by decide +kernel) (pc' := 12) (lo' := [(0, (2, 22)), (1, (0, o)), (2, (0, e)), (3, (0, s)), (4, (1, 10 ^ e.toNat)), (6, (0, n))]) (st' := [(2, 22), (0, n)]) rfl ?_
      refine jget hF 5 4 0 4 rfl (by decide) (by decide) rfl wd_266 (by decide +kernel) (by exact hK.k22) ?_
      refine jicmp_ge hF (off := 82) 97 (by decide +kernel) (by decide) (by omega) (by omega) (fun h_4 => ?_) (fun h_4 => ?_)
      · refine jblk hF [(.aload_n 0, 1)] (by decide +kernel) (pc' := 98) (lo' := [(0, (2, 22)), (1, (0, o)), (2, (0, e)), (3, (0, s)), (4, (1, 10 ^ e.toNat)), (6, (0, n))]) (st' := [(2, 22)]) rfl ?_
        refine jget hF 5 4 0 4 rfl (by decide) (by decide) rfl wd_266 (by decide +kernel) (by exact hK.k22) ?_
        refine jiret hF hr (by decide +kernel) ?_
        exact lMR ⟨hR_m, by exact ⟨by rw [hrc, f4, rcN_e (by omega)]; omega, hf⟩⟩
      · refine jblk hF [(.iload 6, 2), (.iload_n 3, 1), (.isub, 1), (.iload_n 1, 1)] (by decide +kernel) (pc' := 23) (lo' := [(0, (2, 22)), (1, (0, o)), (2, (0, e)), (3, (0, s)), (4, (1, 10 ^ e.toNat)), (6, (0, n))]) (st' := [(0, o), (0, n - s)]) rfl ?_
        refine jicmp_gt hF (off := 18) 41 (by decide +kernel) (by decide) (by omega) (by omega) (fun h_5 => ?_) (fun h_5 => ?_)
        · refine jblk hF [(.aload_n 0, 1), (.iload_n 1, 1)] (by decide +kernel) (pc' := 43) (lo' := [(0, (2, 22)), (1, (0, o)), (2, (0, e)), (3, (0, s)), (4, (1, 10 ^ e.toNat)), (6, (0, n))]) (st' := [(0, o), (2, 22)]) rfl ?_
          refine jcallV hF (c_X4_nextMade hG hK hR_m o (by omega)) MW_X4_nextMade 5 (by decide) (by exact hK.k22) wd_1313 wd_1315 wd_p43 (by decide +kernel) [] rfl rfl (by decide) (Nat.le_of_ble_eq_true rfl) (by decide) (kMR (fun v_8 m_6 h_7 => ?_))
          obtain ⟨hR_m_6, h_7⟩ := h_7
          have hq5 := h_7
          have hrow := ROWJ.made (n := n - s) (by rw [show n - s - 1 = n - 1 - s by omega]; exact hro (by omega)) (by omega) (by omega) hq5.2
          have hnum : v_8 = numF (fun i => mem 24 (e * 40 + (s + i))) (fun _ => 0) o 100 (n - s) := hq5.1.trans hrow.2
          have hrN := hrow.1
          have hfN : ∀ b j : Int, b ≠ 26 → m_6 b j = mem b j := fun b j w => (hq5.2.1 b j w).trans (hf b j w)
          have g6 := hfN 22 6 (by decide)
          have g4 := hfN 22 4 (by decide)
          have g23 := hfN 23 n (by decide)
          have hval : v_8 = numF (fun i => mem 24 (e * 40 + (s + i))) (fun _ => 0) o 100 (n - s) := by first | exact hnum | (rw [numF_piv (by omega) (by decide) (by omega) (by rw [mod100 (by omega)]; omega), show s + (n - s) = n by omega]; exact f24 _)
          have hx6 : m_6 22 6 = mem 22 6 := by first | exact g6 | exact f6
          have hx4 : m_6 22 4 = mem 22 4 := by first | exact g4 | exact f4
          have hx23 : m_6 23 n = mem 23 n := by first | exact g23 | exact f23 n
          have hwl := wL_in (v_8)
          refine jblk hF [(.lstore 7, 2), (.lload 7, 2)] (by decide +kernel) (pc' := 50) (lo' := [(7, (1, v_8)), (0, (2, 22)), (1, (0, o)), (2, (0, e)), (3, (0, s)), (4, (1, 10 ^ e.toNat)), (6, (0, n))]) (st' := [(1, v_8)]) rfl ?_
          refine jwL0 ?_
          refine jblk hF [(.lload 4, 2), (.aload_n 0, 1)] (by decide +kernel) (pc' := 53) (lo' := [(7, (1, v_8)), (0, (2, 22)), (1, (0, o)), (2, (0, e)), (3, (0, s)), (4, (1, 10 ^ e.toNat)), (6, (0, n))]) (st' := [(2, 22), (1, 10 ^ e.toNat), (1, wL v_8)]) rfl ?_
          refine jget hF 5 6 0 6 rfl (by decide) (by decide) rfl wd_268 (by decide +kernel) (by exact hK.k22) ?_
          refine jcallSN hF (c_X11_rounded hG (wL v_8) (10 ^ e.toNat) (m_6 22 6) (by omega) (by omega) (by omega)) MW_X11_rounded wd_1293 wd_554 (by decide +kernel) [] rfl rfl (by decide) (Nat.le_of_ble_eq_true rfl) (by decide) (kV ?_)
          refine jblk hF [(.aload_n 0, 1)] (by decide +kernel) (pc' := 60) (lo' := [(7, (1, v_8)), (0, (2, 22)), (1, (0, o)), (2, (0, e)), (3, (0, s)), (4, (1, 10 ^ e.toNat)), (6, (0, n))]) (st' := [(2, 22), (1, nearBy (wL v_8) (10 ^ e.toNat) (m_6 22 6))]) rfl ?_
          refine jget hF 5 0 2 0 rfl (by decide) (by decide) rfl wd_262 (by decide +kernel) (by exact hK.k22) ?_
          rw [HR.r22_0 hR_m_6]
          refine jblk hF [(.iload 6, 2)] (by decide +kernel) (pc' := 65) (lo' := [(7, (1, v_8)), (0, (2, 22)), (1, (0, o)), (2, (0, e)), (3, (0, s)), (4, (1, 10 ^ e.toNat)), (6, (0, n))]) (st' := [(0, n), (2, 23), (1, nearBy (wL v_8) (10 ^ e.toNat) (m_6 22 6))]) rfl ?_
          refine jlald hF (by decide +kernel) (by exact hK.k23) (by omega) (by have := hK.l23; omega) ?_
          refine jlcmpW_eq hF (off := 6) 73 (by decide +kernel) (by decide +kernel) (by decide) (fun h_9 => ?_) (fun h_9 => ?_)
          · have hone : oneR (fun i => mem 24 (e * 40 + i)) (mem 23) o e (mem 22 6) s n = 1 := by unfold oneR; exact if_pos (by first | (rw [← hval, ← hx6, ← hx23]; assumption) | (rw [← hval, ← hx23, ← hx6]; assumption))
            refine jblk hF [(.iload 6, 2), (.iload_n 3, 1), (.isub, 1), (.iload_n 1, 1)] (by decide +kernel) (pc' := 78) (lo' := [(7, (1, v_8)), (0, (2, 22)), (1, (0, o)), (2, (0, e)), (3, (0, s)), (4, (1, 10 ^ e.toNat)), (6, (0, n))]) (st' := [(0, o), (0, n - s)]) rfl ?_
            refine jicmp_gt hF (off := 13) 91 (by decide +kernel) (by decide) (by omega) (by omega) (fun h_10 => ?_) (fun h_10 => ?_)
            · refine jblk hF [(.iinc 6 1, 3)] (by decide +kernel) (pc' := 94) (lo' := [(6, (0, n + 1)), (7, (1, v_8)), (0, (2, 22)), (1, (0, o)), (2, (0, e)), (3, (0, s)), (4, (1, 10 ^ e.toNat))]) (st' := []) rfl ?_
              refine jgoto hF (off := (-85)) 9 (by decide +kernel) (by decide) ?_
              refine jsub [2, 3, 4, 5, 6, 0] rfl ?_
              refine ih_1 (n + 1) m_6 ?_ ?_ ?_ ?_ ?_ ?_
              · exact hR_m_6
              · omega
              · first | exact hfT | exact hfN
              · (intro _; rw [show n + 1 - 1 - s = n - s by omega]; first | exact hrT | exact hrN)
              · (rw [hrc]; exact rcN_s (by omega) hone)
              · omega
            · exfalso; omega
          · have hone0 : ¬ oneR (fun i => mem 24 (e * 40 + i)) (mem 23) o e (mem 22 6) s n = 1 := by unfold oneR; rw [if_neg (by first | (rw [← hval, ← hx6, ← hx23]; assumption) | (rw [← hval, ← hx23, ← hx6]; assumption))]; decide
            refine jblk hF [(.iload 6, 2)] (by decide +kernel) (pc' := 72) (lo' := [(7, (1, v_8)), (0, (2, 22)), (1, (0, o)), (2, (0, e)), (3, (0, s)), (4, (1, 10 ^ e.toNat)), (6, (0, n))]) (st' := [(0, n)]) rfl ?_
            refine jiret hF hr (by decide +kernel) ?_
            exact lMR ⟨hR_m_6, by exact ⟨by rw [hrc]; exact (rcN_e (fun w => hone0 w.2) _).symm, by first | exact hfN | exact hf⟩⟩
        · refine jblk hF [(.aload_n 0, 1)] (by decide +kernel) (pc' := 27) (lo' := [(0, (2, 22)), (1, (0, o)), (2, (0, e)), (3, (0, s)), (4, (1, 10 ^ e.toNat)), (6, (0, n))]) (st' := [(2, 22)]) rfl ?_
          refine jget hF 5 1 2 1 rfl (by decide) (by decide) rfl wd_263 (by decide +kernel) (by exact hK.k22) ?_
          rw [HR.r22_1 hR_m]
          refine jblk hF [(.iload_n 2, 1), (.bipush 40, 2), (.imul, 1), (.iload 6, 2), (.iadd, 1)] (by decide +kernel) (pc' := 37) (lo' := [(0, (2, 22)), (1, (0, o)), (2, (0, e)), (3, (0, s)), (4, (1, 10 ^ e.toNat)), (6, (0, n))]) (st' := [(0, (e * 40) + n), (2, 24)]) rfl ?_
          refine jlald hF (by decide +kernel) (by exact hK.k24) (by omega) (by have := hK.l24; omega) ?_
          refine jgoto hF (off := 8) 46 (by decide +kernel) (by decide) ?_
          have hval : (m 24 ((e * 40) + n)) = numF (fun i => mem 24 (e * 40 + (s + i))) (fun _ => 0) o 100 (n - s) := by first | exact hnum | (rw [numF_piv (by omega) (by decide) (by omega) (by rw [mod100 (by omega)]; omega), show s + (n - s) = n by omega]; exact f24 _)
          have hx6 : m 22 6 = mem 22 6 := by first | exact g6 | exact f6
          have hx4 : m 22 4 = mem 22 4 := by first | exact g4 | exact f4
          have hx23 : m 23 n = mem 23 n := by first | exact g23 | exact f23 n
          have hwl := wL_in ((m 24 ((e * 40) + n)))
          refine jblk hF [(.lstore 7, 2), (.lload 7, 2)] (by decide +kernel) (pc' := 50) (lo' := [(7, (1, m 24 ((e * 40) + n))), (0, (2, 22)), (1, (0, o)), (2, (0, e)), (3, (0, s)), (4, (1, 10 ^ e.toNat)), (6, (0, n))]) (st' := [(1, m 24 ((e * 40) + n))]) rfl ?_
          refine jwL0 ?_
          refine jblk hF [(.lload 4, 2), (.aload_n 0, 1)] (by decide +kernel) (pc' := 53) (lo' := [(7, (1, m 24 ((e * 40) + n))), (0, (2, 22)), (1, (0, o)), (2, (0, e)), (3, (0, s)), (4, (1, 10 ^ e.toNat)), (6, (0, n))]) (st' := [(2, 22), (1, 10 ^ e.toNat), (1, wL (m 24 ((e * 40) + n)))]) rfl ?_
          refine jget hF 5 6 0 6 rfl (by decide) (by decide) rfl wd_268 (by decide +kernel) (by exact hK.k22) ?_
          refine jcallSN hF (c_X11_rounded hG (wL (m 24 ((e * 40) + n))) (10 ^ e.toNat) (m 22 6) (by omega) (by omega) (by omega)) MW_X11_rounded wd_1293 wd_554 (by decide +kernel) [] rfl rfl (by decide) (Nat.le_of_ble_eq_true rfl) (by decide) (kV ?_)
          refine jblk hF [(.aload_n 0, 1)] (by decide +kernel) (pc' := 60) (lo' := [(7, (1, m 24 ((e * 40) + n))), (0, (2, 22)), (1, (0, o)), (2, (0, e)), (3, (0, s)), (4, (1, 10 ^ e.toNat)), (6, (0, n))]) (st' := [(2, 22), (1, nearBy (wL (m 24 ((e * 40) + n))) (10 ^ e.toNat) (m 22 6))]) rfl ?_
          refine jget hF 5 0 2 0 rfl (by decide) (by decide) rfl wd_262 (by decide +kernel) (by exact hK.k22) ?_
          rw [HR.r22_0 hR_m]
          refine jblk hF [(.iload 6, 2)] (by decide +kernel) (pc' := 65) (lo' := [(7, (1, m 24 ((e * 40) + n))), (0, (2, 22)), (1, (0, o)), (2, (0, e)), (3, (0, s)), (4, (1, 10 ^ e.toNat)), (6, (0, n))]) (st' := [(0, n), (2, 23), (1, nearBy (wL (m 24 ((e * 40) + n))) (10 ^ e.toNat) (m 22 6))]) rfl ?_
          refine jlald hF (by decide +kernel) (by exact hK.k23) (by omega) (by have := hK.l23; omega) ?_
          refine jlcmpW_eq hF (off := 6) 73 (by decide +kernel) (by decide +kernel) (by decide) (fun h_11 => ?_) (fun h_11 => ?_)
          · have hone : oneR (fun i => mem 24 (e * 40 + i)) (mem 23) o e (mem 22 6) s n = 1 := by unfold oneR; exact if_pos (by first | (rw [← hval, ← hx6, ← hx23]; assumption) | (rw [← hval, ← hx23, ← hx6]; assumption))
            refine jblk hF [(.iload 6, 2), (.iload_n 3, 1), (.isub, 1), (.iload_n 1, 1)] (by decide +kernel) (pc' := 78) (lo' := [(7, (1, m 24 ((e * 40) + n))), (0, (2, 22)), (1, (0, o)), (2, (0, e)), (3, (0, s)), (4, (1, 10 ^ e.toNat)), (6, (0, n))]) (st' := [(0, o), (0, n - s)]) rfl ?_
            refine jicmp_gt hF (off := 13) 91 (by decide +kernel) (by decide) (by omega) (by omega) (fun h_12 => ?_) (fun h_12 => ?_)
            · exfalso; omega
            · refine jblk hF [(.aload_n 0, 1), (.iload 6, 2), (.iload_n 3, 1), (.isub, 1), (.lload 7, 2)] (by decide +kernel) (pc' := 88) (lo' := [(7, (1, m 24 ((e * 40) + n))), (0, (2, 22)), (1, (0, o)), (2, (0, e)), (3, (0, s)), (4, (1, 10 ^ e.toNat)), (6, (0, n))]) (st' := [(1, m 24 ((e * 40) + n)), (0, n - s), (2, 22)]) rfl ?_
              refine jcallV hF (c_X4_takePivot hG hK hR_m (n - s) (m 24 ((e * 40) + n)) (by omega)) MW_X4_takePivot 5 (by decide) (by exact hK.k22) wd_1317 wd_1319 wd_p44 (by decide +kernel) [] rfl rfl (by decide) (Nat.le_of_ble_eq_true rfl) (by decide) (kMV (fun m_13 h_14 => ?_))
              obtain ⟨hR_m_13, h_14⟩ := h_14
              have hq6 := h_14
              have hfT : ∀ b j : Int, b ≠ 26 → m_13 b j = mem b j := fun b j w => (hq6.1 b j w).trans (hf b j w)
              have hrT : ROWJ m_13 (fun i => mem 24 (e * 40 + (s + i))) o (n - s) := ROWJ.piv (fun q1 => by rw [show n - s - 1 = n - 1 - s by omega]; exact hro (by omega)) (by omega) (by omega) (by rw [show s + (n - s) = n by omega]; exact f24 (e * 40 + n)) hq6.2
              refine jblk hF [(.iinc 6 1, 3)] (by decide +kernel) (pc' := 94) (lo' := [(6, (0, n + 1)), (7, (1, m 24 ((e * 40) + n))), (0, (2, 22)), (1, (0, o)), (2, (0, e)), (3, (0, s)), (4, (1, 10 ^ e.toNat))]) (st' := []) rfl ?_
              refine jgoto hF (off := (-85)) 9 (by decide +kernel) (by decide) ?_
              refine jsub [2, 3, 4, 5, 6, 0] rfl ?_
              refine ih_1 (n + 1) m_13 ?_ ?_ ?_ ?_ ?_ ?_
              · exact hR_m_13
              · omega
              · first | exact hfT | exact hfN
              · (intro _; rw [show n + 1 - 1 - s = n - s by omega]; first | exact hrT | exact hrN)
              · (rw [hrc]; exact rcN_s (by omega) hone)
              · omega
          · have hone0 : ¬ oneR (fun i => mem 24 (e * 40 + i)) (mem 23) o e (mem 22 6) s n = 1 := by unfold oneR; rw [if_neg (by first | (rw [← hval, ← hx6, ← hx23]; assumption) | (rw [← hval, ← hx23, ← hx6]; assumption))]; decide
            refine jblk hF [(.iload 6, 2)] (by decide +kernel) (pc' := 72) (lo' := [(7, (1, m 24 ((e * 40) + n))), (0, (2, 22)), (1, (0, o)), (2, (0, e)), (3, (0, s)), (4, (1, 10 ^ e.toNat)), (6, (0, n))]) (st' := [(0, n)]) rfl ?_
            refine jiret hF hr (by decide +kernel) ?_
            exact lMR ⟨hR_m, by exact ⟨by rw [hrc]; exact (rcN_e (fun w => hone0 w.2) _).symm, by first | exact hfN | exact hf⟩⟩
  refine jsub [2, 3, 4, 5, 1, 0] rfl ?_
  refine L_2 _ s mem ?_ ?_ ?_ ?_ ?_ (Nat.lt_succ_self _)
  · exact hR
  · omega
  · (intro b j _; rfl)
  · (intro q1; omega)
  · rfl
end
