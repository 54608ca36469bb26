section
/-! the house's search for the fewest slips: what it leaves out by what it has found -/
def finP (u : Int) (tl tc ta : Int → Int) (S : ST) : ST := if S.1 < u then S else if u < S.1 then (u, 0 + 1, cpN u tl S.2.2.1, cpN u tc S.2.2.2.1, cpN u ta S.2.2.2.2) else (S.1, S.2.1 + 1, S.2.2)
def seekP (N o : Int) : Nat → (Int → Int) → Int → (Int → Int) → (Int → Int) → (Int → Int) → ST → ST
  | 0, rs, i, tl, tc, ta, S => if skipN rs i (N - i).toNat = N then finP 4 tl tc ta S else S
  | d + 1, rs, i, tl, tc, ta, S =>
    if skipN rs i (N - i).toNat = N then finP (3 - d) tl tc ta S
    else if S.1 ≤ 3 - d then S
    else foldC (fun c => seekP N o d (markJ N rs (skipN rs i (N - i).toNat) (tmC o c) (-(rs (skipN rs i (N - i).toNat))) (tmC o c + 1)) (skipN rs i (N - i).toNat + 1) (upI tl (3 - d) (skipN rs i (N - i).toNat)) (upI tc (3 - d) (coC o c)) (upI ta (3 - d) (rs (skipN rs i (N - i).toNat)))) (o + 1).toNat S
def SBP (S : ST) : Prop := 0 ≤ S.1 ∧ S.1 ≤ 5
theorem finP_bd {u : Int} {tl tc ta : Int → Int} {S : ST} (hu : 0 ≤ u ∧ u ≤ 4) (h : SBP S) : SBP (finP u tl tc ta S) := by
  unfold finP
  split
  · exact h
  · split
    · exact ⟨show 0 ≤ u by omega, show u ≤ 5 by omega⟩
    · exact h
theorem foldC_bdP {f : Int → ST → ST} (hf : ∀ c S, SBP S → SBP (f c S)) : ∀ (c : Nat) (S : ST), SBP S → SBP (foldC f c S) := by
  intro c
  induction c with
  | zero => intro S h; exact h
  | succ c ih => intro S h; exact hf _ _ (ih S h)
theorem seekP_bd {N o : Int} : ∀ (d : Nat) (_ : d ≤ 4) (rs : Int → Int) (i : Int) (tl tc ta : Int → Int) (S : ST), SBP S → SBP (seekP N o d rs i tl tc ta S) := by
  intro d
  induction d with
  | zero =>
    intro _ rs i tl tc ta S hS
    unfold seekP
    split
    · exact finP_bd (by omega) hS
    · exact hS
  | succ d ih =>
    intro hd rs i tl tc ta S hS
    unfold seekP
    split
    · exact finP_bd (by omega) hS
    · split
      · exact hS
      · exact foldC_bdP (fun c S h => ih (by omega) _ _ _ _ _ _ h) _ _ hS
def SKP (mem : Int → Int → Int) (S : ST) : Prop := mem 14 9 = S.1 ∧ mem 14 10 = S.2.1 ∧ mem 19 = S.2.2.1 ∧ mem 20 = S.2.2.2.1 ∧ mem 21 = S.2.2.2.2
def FSC (mem mm : Int → Int → Int) : Prop := ∀ a j : Int, ¬ (15 ≤ a ∧ a ≤ 21) → ¬ (a = 14 ∧ (j = 9 ∨ j = 10)) → mm a j = mem a j
theorem FSC.rf {mem : Int → Int → Int} : FSC mem mem := fun _ _ _ _ => rfl
theorem FSC.tr {a b c : Int → Int → Int} (h1 : FSC a b) (h2 : FSC b c) : FSC a c := fun x j q1 q2 => (h2 x j q1 q2).trans (h1 x j q1 q2)
theorem FSC.s {mem : Int → Int → Int} {a : Int} (k v : Int) (h : 15 ≤ a ∧ a ≤ 21) : FSC mem (set2 mem a k v) := fun x j q1 _ => s2_a (by omega)
theorem FSC.p {mem : Int → Int → Int} {k : Int} (v : Int) (h : k = 9 ∨ k = 10) : FSC mem (set2 mem 14 k v) := fun x j _ q => if_neg (fun e => q (by omega))
theorem FSC.of15 {mem mm : Int → Int → Int} (h : ∀ b j : Int, b ≠ 15 → mm b j = mem b j) : FSC mem mm := fun a j q _ => h a j (by omega)
def TRC (mem : Int → Int → Int) (u : Int) (tl tc ta : Int → Int) : Prop := ∀ j : Int, 0 ≤ j → j < u → mem 16 j = tl j ∧ mem 17 j = tc j ∧ mem 18 j = ta j
theorem cf_ex : ∀ t : Fin 6, ∀ i : Fin 6, i.val ≤ t.val → -(cfI t.val i.val) * ((t.val : Int) - i.val) = cfI t.val ((i.val : Int) + 1) * ((i.val : Int) + 1) ∧ -10 ≤ cfI t.val i.val ∧ cfI t.val i.val ≤ 10 ∧ 0 ≤ chN t.val i.val ∧ chN t.val i.val ≤ 10 := by decide +kernel
theorem cf_e {t i : Int} (ht : 0 ≤ t ∧ t ≤ 5) (hi : 0 ≤ i ∧ i ≤ t) : -(cfI t i) * (t - i) = cfI t (i + 1) * (i + 1) ∧ -10 ≤ cfI t i ∧ cfI t i ≤ 10 ∧ 0 ≤ chN t i.toNat ∧ chN t i.toNat ≤ 10 := by
  have a := cf_ex ⟨t.toNat, by omega⟩ ⟨i.toNat, by omega⟩ (by show i.toNat ≤ t.toNat; omega)
  have e1 : ((t.toNat : Nat) : Int) = t := by omega
  have e2 : ((i.toNat : Nat) : Int) = i := by omega
  have e3 : ((⟨i.toNat, by omega⟩ : Fin 6).val) = i.toNat := rfl
  have e4 : ((⟨t.toNat, by omega⟩ : Fin 6).val) = t.toNat := rfl
  rw [e3, e4, e1, e2] at a
  exact a
theorem mul_abs {a b A B : Int} (ha : -A ≤ a ∧ a ≤ A) (hb : -B ≤ b ∧ b ≤ B) : -(A * B) ≤ a * b ∧ a * b ≤ A * B := by
  have key : (a * b).natAbs ≤ A.natAbs * B.natAbs := by
    rw [Int.natAbs_mul]
    exact Nat.mul_le_mul (by omega) (by omega)
  have e : ((A.natAbs * B.natAbs : Nat) : Int) = A * B := by
    rw [Int.natCast_mul, Int.natAbs_of_nonneg (by omega), Int.natAbs_of_nonneg (by omega)]
  omega
/-- the times of a slip, one by one -/
theorem tm_step {a t i c : Int} (ht : 0 ≤ t ∧ t ≤ 5) (hi : 0 ≤ i ∧ i ≤ t) (hc : c = a * cfI t i) (hb : -10000000000000000 ≤ a ∧ a ≤ 10000000000000000) : (-c * (t - i)).tdiv (i + 1) = a * cfI t (i + 1) ∧ (-100000000000000000 ≤ c ∧ c ≤ 100000000000000000) ∧ -1000000000000000000 ≤ -c * (t - i) ∧ -c * (t - i) ≤ 1000000000000000000 := by
  have h := cf_e ht hi
  have e : -c * (t - i) = a * cfI t (i + 1) * (i + 1) := by
    rw [hc, ← Int.mul_neg, Int.mul_assoc, h.1, Int.mul_assoc]
  have h1 := mul_abs hb ⟨h.2.1, h.2.2.1⟩
  rw [← hc] at h1
  have h2 := mul_abs (a := -c) (b := t - i) (A := 100000000000000000) (B := 5) (by omega) (by omega)
  refine ⟨?_, by omega, by omega, by omega⟩
  rw [e]
  exact Int.mul_tdiv_cancel _ (by omega)
theorem mk_step {N : Int} {rs : Int → Int} {k t a j c : Int} {m : Int → Int → Int} (hj : 0 ≤ j) (hN : k + j < N) (h : ∀ x : Int, m 15 x = markJ N rs k t a j x) (hc : c = a * cfI t j) : ∀ x : Int, set2 m 15 (k + j) (m 15 (k + j) + c) 15 x = markJ N rs k t a (j + 1) x := by
  have e : (if j % 2 = 0 then a else -a) * chN t j.toNat = c := by
    rw [hc]
    unfold cfI sgI
    split
    · rw [Int.one_mul]
    · rw [Int.neg_mul, Int.neg_mul, Int.one_mul, Int.mul_neg]
  intro x
  by_cases q : x = k + j
  · subst q
    rw [s2_s, h, markJ_out (by omega), markJ_in (by omega), show k + j - k = j by omega, e]
  · rw [s2_k q, h]
    by_cases w : k ≤ x ∧ x < k + j ∧ x < N
    · rw [markJ_in w, markJ_in (by omega)]
    · rw [markJ_out w, markJ_out (by omega)]
theorem cpc3 {m : Int → Int → Int} {j v1 v2 v3 : Int} {tl tc ta bl bc ba : Int → Int} (hj : 0 ≤ j) (h : m 19 = cpN j tl bl ∧ m 20 = cpN j tc bc ∧ m 21 = cpN j ta ba) (hv : v1 = tl j ∧ v2 = tc j ∧ v3 = ta j) :
    (set2 (set2 (set2 m 19 j v1) 20 j v2) 21 j v3) 19 = cpN (j + 1) tl bl ∧ (set2 (set2 (set2 m 19 j v1) 20 j v2) 21 j v3) 20 = cpN (j + 1) tc bc ∧ (set2 (set2 (set2 m 19 j v1) 20 j v2) 21 j v3) 21 = cpN (j + 1) ta ba := by
  refine ⟨funext fun y => ?_, funext fun y => ?_, funext fun y => ?_⟩
  · rw [s2_a (by decide), s2_a (by decide)]
    exact cpN_1 hj h.1 hv.1 y
  · rw [s2_a (by decide)]
    exact cpN_1 (m := set2 m 19 j v1) hj (by rw [← h.2.1]; exact funext fun y => s2_a (by decide)) hv.2.1 y
  · exact cpN_1 (m := set2 (set2 m 19 j v1) 20 j v2) hj (by rw [← h.2.2]; exact funext fun y => by rw [s2_a (by decide), s2_a (by decide)]) hv.2.2 y
/-- what keeping leaves -/
def KPL (mem mm : Int → Int → Int) (S : ST) : Prop := FSC mem mm ∧ (mm 15 = mem 15 ∧ mm 16 = mem 16 ∧ mm 17 = mem 17 ∧ mm 18 = mem 18) ∧ SKP mm S
theorem KPL.same {mem : Int → Int → Int} {S : ST} {u : Int} {tl tc ta : Int → Int} (h : SKP mem S) (hu : mem 14 9 < u) : KPL mem mem (finP u tl tc ta S) := by
  unfold finP
  rw [if_pos (by rw [← h.1]; exact hu)]
  exact ⟨FSC.rf, ⟨rfl, rfl, rfl, rfl⟩, h⟩
theorem KPL.more {mem : Int → Int → Int} {S : ST} {u w : Int} {tl tc ta : Int → Int} (h : SKP mem S) (h1 : ¬ mem 14 9 < u) (h2 : ¬ u < mem 14 9) (hw : w = mem 14 10 + 1) : KPL mem (set2 mem 14 10 w) (finP u tl tc ta S) := by
  unfold finP
  rw [if_neg (by rw [← h.1]; exact h1), if_neg (by rw [← h.1]; exact h2)]
  refine ⟨FSC.p _ (Or.inr rfl), ⟨rfl, rfl, rfl, rfl⟩, (s2_k (by decide)).trans h.1, ?_, h.2.2.1, h.2.2.2.1, h.2.2.2.2⟩
  rw [s2_s, hw, h.2.1]
theorem KPL.new {mem m : Int → Int → Int} {S : ST} {u j w : Int} {tl tc ta : Int → Int} (h : SKP mem S) (h1 : ¬ mem 14 9 < u) (h2 : u < mem 14 9) (hf : FSC mem m) (hs : m 15 = mem 15 ∧ m 16 = mem 16 ∧ m 17 = mem 17 ∧ m 18 = mem 18) (h9 : m 14 9 = u) (hw : w = 0 + 1) (hj : j = u) (hc : m 19 = cpN j tl S.2.2.1 ∧ m 20 = cpN j tc S.2.2.2.1 ∧ m 21 = cpN j ta S.2.2.2.2) : KPL mem (set2 m 14 10 w) (finP u tl tc ta S) := by
  subst hj
  unfold finP
  rw [if_neg (by rw [← h.1]; exact h1), if_pos (by rw [← h.1]; exact h2)]
  exact ⟨hf.tr (FSC.p _ (Or.inr rfl)), hs, (s2_k (by decide)).trans h9, by rw [s2_s, hw], hc.1, hc.2.1, hc.2.2⟩
set_option maxHeartbeats 4000000 in
set_option maxRecDepth 100000 in
theorem c_X6_addTo {l : Launch} {g : GP} (hG : GH g) {kd : Int → Nat} {ln : Int → Int} {mem : Int → Int → Int} {sz : Nat} (hK : HK kd ln) (hR : HR mem) (n t a : Int) (hnt : 0 ≤ n ∧ n < 40 ∧ 0 ≤ t ∧ t ≤ 5) (hN : 0 ≤ mem 14 7 ∧ mem 14 7 ≤ 40) (hab : -10000000000000000 ≤ a ∧ a ≤ 10000000000000000) : MT l g yX6_addTo cX6_addTo 8 none 0 0 0 [(2, 14), (0, n), (0, t), (1, a)] kd ln mem sz (pMV (fun mem' => HR mem' ∧ ((∀ b j : Int, b ≠ 15 → mem' b j = mem b j) ∧ ∀ x : Int, mem' 15 x = markJ (mem 14 7) (mem 15) n t a (t + 1) x)) kd ln sz) := by
  refine MT_of hG (by decide +kernel) (Nat.le_of_ble_eq_true rfl) (fun z hF hr hn => ?_)
  refine jblk hF [(.lload_n 3, 1), (.lstore 5, 2), (.iconst 0, 1), (.istore 7, 2)] (by decide +kernel) (pc' := 6) (lo' := [(7, (0, 0)), (5, (1, a)), (0, (2, 14)), (1, (0, n)), (2, (0, t)), (3, (1, a))]) (st' := []) rfl ?_
  have L_2 : ∀ (fu_3 : Nat) (c : Int) (j : Int) (m1 : Int → Int → Int), (HR m1) → (0 ≤ j ∧ j ≤ t + 1) → (∀ b j : Int, b ≠ 15 → m1 b j = mem b j) → (∀ x : Int, m1 15 x = markJ (mem 14 7) (mem 15) n t a j x) → (c = a * cfI t j) →  (t + 1 - j).toNat < fu_3 → J z g 8 0 0 (QM z g 0 0 (pMV (fun mem' => HR mem' ∧ ((∀ b j : Int, b ≠ 15 → mem' b j = mem b j) ∧ ∀ x : Int, mem' 15 x = markJ (mem 14 7) (mem 15) n t a (t + 1) x)) kd ln sz)) 6 [(0, (2, 14)), (1, (0, n)), (2, (0, t)), (3, (1, a)), (5, (1, c)), (7, (0, j))] [] kd ln m1 sz := by
    intro fu_3
    induction fu_3 with
    | zero => intro c j m1 _ _ _ _ _ hm; omega
    | succ fu_3 ih_1 =>
      intro c j m1 hR_m1 hj hf1 hx hc hm
      have e7 : m1 14 7 = mem 14 7 := hf1 14 7 (by decide)
      refine jblk hF [(.iload 7, 2), (.iload_n 2, 1)] (by decide +kernel) (pc' := 9) (lo' := [(0, (2, 14)), (1, (0, n)), (2, (0, t)), (3, (1, a)), (5, (1, c)), (7, (0, j))]) (st' := [(0, t), (0, j)]) rfl ?_
      refine jicmp_gt hF (off := 51) 60 (by decide +kernel) (by decide) (by omega) (by omega) (fun h_4 => ?_) (fun h_4 => ?_)
      · refine jvret hF hr (by decide +kernel) ?_
        exact lMV ⟨hR_m1, by exact ⟨hf1, fun x => by rw [hx x, markJ_end (by omega) (by omega)]⟩⟩
      · refine jblk hF [(.iload_n 1, 1), (.iload 7, 2), (.iadd, 1), (.aload_n 0, 1)] (by decide +kernel) (pc' := 17) (lo' := [(0, (2, 14)), (1, (0, n)), (2, (0, t)), (3, (1, a)), (5, (1, c)), (7, (0, j))]) (st' := [(2, 14), (0, n + j)]) rfl ?_
        refine jget hF 7 7 0 7 rfl (by decide) (by decide) rfl wd_227 (by decide +kernel) (by exact hK.k14) ?_
        refine jicmp_ge hF (off := 40) 60 (by decide +kernel) (by decide) (by omega) (by omega) (fun h_5 => ?_) (fun h_5 => ?_)
        · refine jvret hF hr (by decide +kernel) ?_
          exact lMV ⟨hR_m1, by exact ⟨hf1, fun x => by rw [hx x, markJ_end (by omega) (by omega)]⟩⟩
        · have hts := tm_step (t := t) (i := j) (by omega) (by omega) hc hab
          refine jblk hF [(.aload_n 0, 1)] (by decide +kernel) (pc' := 24) (lo' := [(0, (2, 14)), (1, (0, n)), (2, (0, t)), (3, (1, a)), (5, (1, c)), (7, (0, j))]) (st' := [(2, 14)]) rfl ?_
          refine jget hF 7 0 2 0 rfl (by decide) (by decide) rfl wd_217 (by decide +kernel) (by exact hK.k14) ?_
          rw [HR.r14_0 hR_m1]
          refine jblk hF [(.iload_n 1, 1), (.iload 7, 2), (.iadd, 1)] (by decide +kernel) (pc' := 31) (lo' := [(0, (2, 14)), (1, (0, n)), (2, (0, t)), (3, (1, a)), (5, (1, c)), (7, (0, j))]) (st' := [(0, n + j), (2, 15)]) rfl ?_
          refine jdup2 hF (by show ¬ (0 : Nat) = 1; decide) (by show ¬ (2 : Nat) = 1; decide) (by decide +kernel) ?_
          refine jlald hF (by decide +kernel) (by exact hK.k15) (by omega) (by have := hK.l15; omega) ?_
          refine jblk hF [(.lload 5, 2), (.ladd, 1)] (by decide +kernel) (pc' := 36) (lo' := [(0, (2, 14)), (1, (0, n)), (2, (0, t)), (3, (1, a)), (5, (1, c)), (7, (0, j))]) (st' := [(1, (m1 15 (n + j)) + c), (0, n + j), (2, 15)]) rfl ?_
          refine jlast hF (by decide +kernel) (by decide) (by exact hK.k15) (by omega) (by have := hK.l15; omega) ?_
          refine jblk hF [(.lload 5, 2), (.lneg, 1), (.iload_n 2, 1), (.iload 7, 2), (.isub, 1)] (by decide +kernel) (pc' := 44) (lo' := [(0, (2, 14)), (1, (0, n)), (2, (0, t)), (3, (1, a)), (5, (1, c)), (7, (0, j))]) (st' := [(0, t - j), (1, -c)]) rfl ?_
          refine ji2l hF (by decide +kernel) (by omega) ?_
          refine jblk hF [(.lmul, 1), (.iload 7, 2), (.iconst 1, 1), (.iadd, 1)] (by decide +kernel) (pc' := 50) (lo' := [(0, (2, 14)), (1, (0, n)), (2, (0, t)), (3, (1, a)), (5, (1, c)), (7, (0, j))]) (st' := [(0, j + 1), (1, (-c) * (t - j))]) rfl ?_
          refine ji2l hF (by decide +kernel) (by omega) ?_
          refine jldiv hF (by decide +kernel) (by omega) (by omega) (by omega) ?_
          refine jblk hF [(.lstore 5, 2), (.iinc 7 1, 3)] (by decide +kernel) (pc' := 57) (lo' := [(7, (0, j + 1)), (5, (1, Int.tdiv ((-c) * (t - j)) (j + 1))), (0, (2, 14)), (1, (0, n)), (2, (0, t)), (3, (1, a))]) (st' := []) rfl ?_
          refine jgoto hF (off := (-51)) 6 (by decide +kernel) (by decide) ?_
          refine jsub [2, 3, 4, 5, 1, 0] rfl ?_
          refine ih_1 (Int.tdiv ((-c) * (t - j)) (j + 1)) (j + 1) (set2 m1 15 (n + j) ((m1 15 (n + j)) + c)) ?_ ?_ ?_ ?_ ?_ ?_
          · exact (HR.s hR_m1 (by omega))
          · omega
          · (intro b j h; rw [s2_a h]; exact hf1 b j h)
          · exact mk_step hj.1 (by omega) hx hc
          · exact hts.1
          · omega
  refine jsub [2, 3, 4, 5, 1, 0] rfl ?_
  refine L_2 _ a 0 mem ?_ ?_ ?_ ?_ ?_ (Nat.lt_succ_self _)
  · exact hR
  · omega
  · (intro b j _; rfl)
  · (intro x; unfold markJ; rw [if_neg (by omega)])
  · (show a = a * (1 * 1); omega)
set_option maxHeartbeats 4000000 in
set_option maxRecDepth 100000 in
theorem c_X6_keep {l : Launch} {g : GP} (hG : GH g) {kd : Int → Nat} {ln : Int → Int} {mem : Int → Int → Int} {sz : Nat} (hK : HK kd ln) (hR : HR mem) (u : Int) (tl : Int → Int) (tc : Int → Int) (ta : Int → Int) (S : ST) (hu4 : 0 ≤ u ∧ u ≤ 4) (htr : TRC mem u tl tc ta) (hst : SKP mem S) (hsb : SBP S) : MT l g yX6_keep cX6_keep 3 none 0 0 0 [(2, 14), (0, u)] kd ln mem sz (pMV (fun mem' => HR mem' ∧ (KPL mem mem' (finP u tl tc ta S))) kd ln sz) := by
  refine MT_of hG (by decide +kernel) (Nat.le_of_ble_eq_true rfl) (fun z hF hr hn => ?_)
  have h9 := hst.1
  have hs1 := hsb.1
  have hs2 := hsb.2
  refine jblk hF [(.iload_n 1, 1), (.aload_n 0, 1)] (by decide +kernel) (pc' := 2) (lo' := [(0, (2, 14)), (1, (0, u))]) (st' := [(2, 14), (0, u)]) rfl ?_
  refine jget hF 7 9 0 9 rfl (by decide) (by decide) rfl wd_229 (by decide +kernel) (by exact hK.k14) ?_
  refine jicmp_le hF (off := 4) 9 (by decide +kernel) (by decide) (by omega) (by omega) (fun h_1 => ?_) (fun h_1 => ?_)
  · refine jblk hF [(.iload_n 1, 1), (.aload_n 0, 1)] (by decide +kernel) (pc' := 11) (lo' := [(0, (2, 14)), (1, (0, u))]) (st' := [(2, 14), (0, u)]) rfl ?_
    refine jget hF 7 9 0 9 rfl (by decide) (by decide) rfl wd_229 (by decide +kernel) (by exact hK.k14) ?_
    refine jicmp_ge hF (off := 67) 81 (by decide +kernel) (by decide) (by omega) (by omega) (fun h_2 => ?_) (fun h_2 => ?_)
    · refine jblk hF [(.aload_n 0, 1), (.dup, 1)] (by decide +kernel) (pc' := 83) (lo' := [(0, (2, 14)), (1, (0, u))]) (st' := [(2, 14), (2, 14)]) rfl ?_
      refine jget hF 7 10 0 10 rfl (by decide) (by decide) rfl wd_231 (by decide +kernel) (by exact hK.k14) ?_
      refine jblk hF [(.iconst 1, 1), (.iadd, 1)] (by decide +kernel) (pc' := 88) (lo' := [(0, (2, 14)), (1, (0, u))]) (st' := [(0, (mem 14 10) + 1), (2, 14)]) rfl ?_
      refine jput hF 7 10 0 10 rfl (by decide) (by decide) rfl wd_231 (by decide +kernel) rfl (Or.inl rfl) (by exact hK.k14) (fun h => by cases h) ?_
      refine jvret hF hr (by decide +kernel) ?_
      exact lMV ⟨(HR.s hR (by omega)), by first | exact KPL.new hst (by omega) (by omega) hf1 hs hz.1 (by rw [hz.2]) (by omega) hcp | exact KPL.more hst (by omega) (by omega) rfl⟩
    · refine jblk hF [(.aload_n 0, 1), (.iload_n 1, 1)] (by decide +kernel) (pc' := 19) (lo' := [(0, (2, 14)), (1, (0, u))]) (st' := [(0, u), (2, 14)]) rfl ?_
      refine jput hF 7 9 0 9 rfl (by decide) (by decide) rfl wd_229 (by decide +kernel) rfl (Or.inl rfl) (by exact hK.k14) (fun h => by cases h) ?_
      refine jblk hF [(.aload_n 0, 1), (.iconst 0, 1)] (by decide +kernel) (pc' := 24) (lo' := [(0, (2, 14)), (1, (0, u))]) (st' := [(0, 0), (2, 14)]) rfl ?_
      refine jput hF 7 10 0 10 rfl (by decide) (by decide) rfl wd_231 (by decide +kernel) rfl (Or.inl rfl) (by exact hK.k14) (fun h => by cases h) ?_
      refine jblk hF [(.iconst 0, 1), (.istore_n 2, 1)] (by decide +kernel) (pc' := 29) (lo' := [(2, (0, 0)), (0, (2, 14)), (1, (0, u))]) (st' := []) rfl ?_
      have L_4 : ∀ (fu_5 : Nat) (j : Int) (m1 : Int → Int → Int), (HR m1) → (0 ≤ j ∧ j ≤ u) → (FSC mem m1) → (m1 15 = mem 15 ∧ m1 16 = mem 16 ∧ m1 17 = mem 17 ∧ m1 18 = mem 18) → (m1 14 9 = u ∧ m1 14 10 = 0) → (m1 19 = cpN j tl S.2.2.1 ∧ m1 20 = cpN j tc S.2.2.2.1 ∧ m1 21 = cpN j ta S.2.2.2.2) →  (u - j).toNat < fu_5 → J z g 3 0 0 (QM z g 0 0 (pMV (fun mem' => HR mem' ∧ (KPL mem mem' (finP u tl tc ta S))) kd ln sz)) 29 [(0, (2, 14)), (1, (0, u)), (2, (0, j))] [] kd ln m1 sz := by
        intro fu_5
        induction fu_5 with
        | zero => intro j m1 _ _ _ _ _ _ hm; omega
        | succ fu_5 ih_3 =>
          intro j m1 hR_m1 hj hf1 hs hz hcp hm
          refine jblk hF [(.iload_n 2, 1), (.iload_n 1, 1)] (by decide +kernel) (pc' := 31) (lo' := [(0, (2, 14)), (1, (0, u)), (2, (0, j))]) (st' := [(0, u), (0, j)]) rfl ?_
          refine jicmp_ge hF (off := 50) 81 (by decide +kernel) (by decide) (by omega) (by omega) (fun h_6 => ?_) (fun h_6 => ?_)
          · refine jblk hF [(.aload_n 0, 1), (.dup, 1)] (by decide +kernel) (pc' := 83) (lo' := [(0, (2, 14)), (1, (0, u)), (2, (0, j))]) (st' := [(2, 14), (2, 14)]) rfl ?_
            refine jget hF 7 10 0 10 rfl (by decide) (by decide) rfl wd_231 (by decide +kernel) (by exact hK.k14) ?_
            refine jblk hF [(.iconst 1, 1), (.iadd, 1)] (by decide +kernel) (pc' := 88) (lo' := [(0, (2, 14)), (1, (0, u)), (2, (0, j))]) (st' := [(0, (m1 14 10) + 1), (2, 14)]) rfl ?_
            refine jput hF 7 10 0 10 rfl (by decide) (by decide) rfl wd_231 (by decide +kernel) rfl (Or.inl rfl) (by exact hK.k14) (fun h => by cases h) ?_
            refine jvret hF hr (by decide +kernel) ?_
            exact lMV ⟨(HR.s hR_m1 (by omega)), by first | exact KPL.new hst (by omega) (by omega) hf1 hs hz.1 (by rw [hz.2]) (by omega) hcp | exact KPL.more hst (by omega) (by omega) rfl⟩
          · refine jblk hF [(.iload_n 2, 1), (.iconst 4, 1)] (by decide +kernel) (pc' := 36) (lo' := [(0, (2, 14)), (1, (0, u)), (2, (0, j))]) (st' := [(0, 4), (0, j)]) rfl ?_
            refine jicmp_ge hF (off := 45) 81 (by decide +kernel) (by decide) (by omega) (by decide) (fun h_7 => ?_) (fun h_7 => ?_)
            · refine jblk hF [(.aload_n 0, 1), (.dup, 1)] (by decide +kernel) (pc' := 83) (lo' := [(0, (2, 14)), (1, (0, u)), (2, (0, j))]) (st' := [(2, 14), (2, 14)]) rfl ?_
              refine jget hF 7 10 0 10 rfl (by decide) (by decide) rfl wd_231 (by decide +kernel) (by exact hK.k14) ?_
              refine jblk hF [(.iconst 1, 1), (.iadd, 1)] (by decide +kernel) (pc' := 88) (lo' := [(0, (2, 14)), (1, (0, u)), (2, (0, j))]) (st' := [(0, (m1 14 10) + 1), (2, 14)]) rfl ?_
              refine jput hF 7 10 0 10 rfl (by decide) (by decide) rfl wd_231 (by decide +kernel) rfl (Or.inl rfl) (by exact hK.k14) (fun h => by cases h) ?_
              refine jvret hF hr (by decide +kernel) ?_
              exact lMV ⟨(HR.s hR_m1 (by omega)), by first | exact KPL.new hst (by omega) (by omega) hf1 hs hz.1 (by rw [hz.2]) (by omega) hcp | exact KPL.more hst (by omega) (by omega) rfl⟩
            · refine jblk hF [(.aload_n 0, 1)] (by decide +kernel) (pc' := 40) (lo' := [(0, (2, 14)), (1, (0, u)), (2, (0, j))]) (st' := [(2, 14)]) rfl ?_
              refine jget hF 7 4 2 4 rfl (by decide) (by decide) rfl wd_221 (by decide +kernel) (by exact hK.k14) ?_
              rw [HR.r14_4 hR_m1]
              refine jblk hF [(.iload_n 2, 1), (.aload_n 0, 1)] (by decide +kernel) (pc' := 45) (lo' := [(0, (2, 14)), (1, (0, u)), (2, (0, j))]) (st' := [(2, 14), (0, j), (2, 19)]) rfl ?_
              refine jget hF 7 1 2 1 rfl (by decide) (by decide) rfl wd_218 (by decide +kernel) (by exact hK.k14) ?_
              rw [HR.r14_1 hR_m1]
              refine jblk hF [(.iload_n 2, 1)] (by decide +kernel) (pc' := 49) (lo' := [(0, (2, 14)), (1, (0, u)), (2, (0, j))]) (st' := [(0, j), (2, 16), (0, j), (2, 19)]) rfl ?_
              refine jiald hF (by decide +kernel) (by exact hK.k16) (by omega) (by have := hK.l16; omega) ?_
              refine jiast hF (by decide +kernel) (by decide) (by exact hK.k19) (by omega) (by have := hK.l19; omega) ?_
              refine jblk hF [(.aload_n 0, 1)] (by decide +kernel) (pc' := 52) (lo' := [(0, (2, 14)), (1, (0, u)), (2, (0, j))]) (st' := [(2, 14)]) rfl ?_
              refine jget hF 7 5 2 5 rfl (by decide) (by decide) rfl wd_223 (by decide +kernel) (by exact hK.k14) ?_
              rw [HR.r14_5 (HR.s hR_m1 (by omega))]
              refine jblk hF [(.iload_n 2, 1), (.aload_n 0, 1)] (by decide +kernel) (pc' := 57) (lo' := [(0, (2, 14)), (1, (0, u)), (2, (0, j))]) (st' := [(2, 14), (0, j), (2, 20)]) rfl ?_
              refine jget hF 7 2 2 2 rfl (by decide) (by decide) rfl wd_219 (by decide +kernel) (by exact hK.k14) ?_
              rw [HR.r14_2 (HR.s hR_m1 (by omega))]
              refine jblk hF [(.iload_n 2, 1)] (by decide +kernel) (pc' := 61) (lo' := [(0, (2, 14)), (1, (0, u)), (2, (0, j))]) (st' := [(0, j), (2, 17), (0, j), (2, 20)]) rfl ?_
              refine jiald hF (by decide +kernel) (by exact hK.k17) (by omega) (by have := hK.l17; omega) ?_
              rw [show (set2 m1 19 j (m1 16 j)) 17 j = m1 17 j from (s2_a (by decide))]
              refine jiast hF (by decide +kernel) (by decide) (by exact hK.k20) (by omega) (by have := hK.l20; omega) ?_
              refine jblk hF [(.aload_n 0, 1)] (by decide +kernel) (pc' := 64) (lo' := [(0, (2, 14)), (1, (0, u)), (2, (0, j))]) (st' := [(2, 14)]) rfl ?_
              refine jget hF 7 6 2 6 rfl (by decide) (by decide) rfl wd_225 (by decide +kernel) (by exact hK.k14) ?_
              rw [HR.r14_6 (HR.s (HR.s hR_m1 (by omega)) (by omega))]
              refine jblk hF [(.iload_n 2, 1), (.aload_n 0, 1)] (by decide +kernel) (pc' := 69) (lo' := [(0, (2, 14)), (1, (0, u)), (2, (0, j))]) (st' := [(2, 14), (0, j), (2, 21)]) rfl ?_
              refine jget hF 7 3 2 3 rfl (by decide) (by decide) rfl wd_220 (by decide +kernel) (by exact hK.k14) ?_
              rw [HR.r14_3 (HR.s (HR.s hR_m1 (by omega)) (by omega))]
              refine jblk hF [(.iload_n 2, 1)] (by decide +kernel) (pc' := 73) (lo' := [(0, (2, 14)), (1, (0, u)), (2, (0, j))]) (st' := [(0, j), (2, 18), (0, j), (2, 21)]) rfl ?_
              refine jlald hF (by decide +kernel) (by exact hK.k18) (by omega) (by have := hK.l18; omega) ?_
              rw [show (set2 (set2 m1 19 j (m1 16 j)) 20 j (m1 17 j)) 18 j = m1 18 j from ((s2_a (by decide)).trans (s2_a (by decide)))]
              refine jlast hF (by decide +kernel) (by decide) (by exact hK.k21) (by omega) (by have := hK.l21; omega) ?_
              refine jblk hF [(.iinc 2 1, 3)] (by decide +kernel) (pc' := 78) (lo' := [(2, (0, j + 1)), (0, (2, 14)), (1, (0, u))]) (st' := []) rfl ?_
              refine jgoto hF (off := (-49)) 29 (by decide +kernel) (by decide) ?_
              refine jsub [1, 2, 0] rfl ?_
              refine ih_3 (j + 1) (set2 (set2 (set2 m1 19 j (m1 16 j)) 20 j (m1 17 j)) 21 j (m1 18 j)) ?_ ?_ ?_ ?_ ?_ ?_ ?_
              · exact (HR.s (HR.s (HR.s hR_m1 (by omega)) (by omega)) (by omega))
              · omega
              · exact ((hf1.tr (FSC.s _ _ (by decide))).tr (FSC.s _ _ (by decide))).tr (FSC.s _ _ (by decide))
              · exact ⟨hs.1, hs.2.1, hs.2.2.1, hs.2.2.2⟩
              · exact hz
              · (have h9 := htr j (by omega) (by omega); exact cpc3 (by omega) hcp ⟨by rw [hs.2.1]; exact h9.1, by rw [hs.2.2.1]; exact h9.2.1, by rw [hs.2.2.2]; exact h9.2.2⟩)
              · omega
      refine jsub [1, 2, 0] rfl ?_
      refine L_4 _ 0 (set2 (set2 mem 14 9 u) 14 10 0) ?_ ?_ ?_ ?_ ?_ ?_ (Nat.lt_succ_self _)
      · exact (HR.s (HR.s hR (by omega)) (by omega))
      · omega
      · exact (FSC.p _ (Or.inl rfl)).tr (FSC.p _ (Or.inr rfl))
      · exact ⟨rfl, rfl, rfl, rfl⟩
      · exact ⟨by rw [s2_k (by decide), s2_s], s2_s⟩
      · exact ⟨cpN_0 hst.2.2.1, cpN_0 hst.2.2.2.1, cpN_0 hst.2.2.2.2⟩
  · refine jvret hF hr (by decide +kernel) ?_
    exact lMV ⟨hR, by exact KPL.same hst (by omega)⟩
end
