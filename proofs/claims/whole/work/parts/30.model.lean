section
/-! the least blame -/
abbrev ST : Type := Int × Int × (Int → Int) × (Int → Int) × (Int → Int)
def markJ (N : Int) (rs : Int → Int) (k t a j : Int) : Int → Int := fun x => if k ≤ x ∧ x < k + j ∧ x < N then rs x + (if (x - k) % 2 = 0 then a else -a) * chN t (x - k).toNat else rs x
def skipN (rs : Int → Int) (i : Int) : Nat → Int
  | 0 => i
  | f + 1 => if wL (rs i) = wL 0 then skipN rs (i + 1) f else i
def cpN (u : Int) (tl bl : Int → Int) : Int → Int := fun j => if 0 ≤ j ∧ j < u then tl j else bl j
def finS (u : Int) (tl tc ta : Int → Int) (S : ST) : ST := if S.1 = -1 ∨ u < S.1 then (u, 0 + 1, cpN u tl S.2.2.1, cpN u tc S.2.2.2.1, cpN u ta S.2.2.2.2) else (S.1, S.2.1 + (if u = S.1 then 1 else 0), S.2.2)
def foldC (f : Int → ST → ST) : Nat → ST → ST
  | 0, S => S
  | c + 1, S => f c (foldC f c S)
def upI (f : Int → Int) (u v : Int) : Int → Int := fun j => if j = u then v else f j
def tmC (o c : Int) : Int := if c = o then o + 1 else o - c
def coC (o c : Int) : Int := if c = o then 9 else c
/-- goes on behind 4 - d slips from place i on -/
def seekF (N o h : Int) : Nat → (Int → Int) → Int → (Int → Int) → (Int → Int) → (Int → Int) → ST → ST
  | 0, rs, i, tl, tc, ta, S => if skipN rs i (N - i).toNat = N then finS 4 tl tc ta S else S
  | d + 1, rs, i, tl, tc, ta, S =>
    if skipN rs i (N - i).toNat = N then finS (3 - d) tl tc ta S
    else foldC (fun c => seekF N o h d (markJ N rs (skipN rs i (N - i).toNat) (tmC o c) (-(rs (skipN rs i (N - i).toNat))) (tmC o c + 1)) (skipN rs i (N - i).toNat + 1) (upI tl (3 - d) (h + skipN rs i (N - i).toNat)) (upI tc (3 - d) (coC o c)) (upI ta (3 - d) (rs (skipN rs i (N - i).toNat)))) (o + 1).toNat S
def SB (S : ST) : Prop := -1 ≤ S.1 ∧ S.1 ≤ 4
theorem finS_bd {u : Int} {tl tc ta : Int → Int} {S : ST} (hu : 0 ≤ u ∧ u ≤ 4) (h : SB S) : SB (finS u tl tc ta S) := by
  unfold finS
  split
  · exact ⟨show -1 ≤ u by omega, show u ≤ 4 by omega⟩
  · exact h
theorem foldC_bd {f : Int → ST → ST} (hf : ∀ c S, SB S → SB (f c S)) : ∀ (c : Nat) (S : ST), SB S → SB (foldC f c S) := by
  intro c
  induction c with
  | zero => intro S h; exact h
  | succ c ih => intro S h; exact hf _ _ (ih S h)
theorem seekF_bd {N o h : Int} : ∀ (d : Nat) (hd : d ≤ 3) (rs : Int → Int) (i : Int) (tl tc ta : Int → Int) (S : ST), SB S → SB (seekF N o h d rs i tl tc ta S) ∧ SB (seekF N o h (d + 1) rs i tl tc ta S) := by
  have h0 : ∀ (rs : Int → Int) (i : Int) (tl tc ta : Int → Int) (S : ST), SB S → SB (seekF N o h 0 rs i tl tc ta S) := by
    intro rs i tl tc ta S hS
    unfold seekF
    split
    · exact finS_bd (by omega) hS
    · exact hS
  have h1 : ∀ (d : Nat) (hd : d ≤ 3), (∀ (rs : Int → Int) (i : Int) (tl tc ta : Int → Int) (S : ST), SB S → SB (seekF N o h d rs i tl tc ta S)) → ∀ (rs : Int → Int) (i : Int) (tl tc ta : Int → Int) (S : ST), SB S → SB (seekF N o h (d + 1) rs i tl tc ta S) := by
    intro d hd ih rs i tl tc ta S hS
    unfold seekF
    split
    · exact finS_bd (by omega) hS
    · exact foldC_bd (fun c S h => ih _ _ _ _ _ _ h) _ _ hS
  intro d
  induction d with
  | zero => intro _ rs i tl tc ta S hS; exact ⟨h0 _ _ _ _ _ _ hS, h1 0 (by omega) h0 _ _ _ _ _ _ hS⟩
  | succ d ih =>
    intro hd rs i tl tc ta S hS
    have q : ∀ (rs : Int → Int) (i : Int) (tl tc ta : Int → Int) (S : ST), SB S → SB (seekF N o h (d + 1) rs i tl tc ta S) := fun rs i tl tc ta S hS => (ih (by omega) rs i tl tc ta S hS).2
    exact ⟨q _ _ _ _ _ _ hS, h1 (d + 1) hd q _ _ _ _ _ _ hS⟩
/-- the answer so far stands in the model's cells -/
def SKST (mem : Int → Int → Int) (S : ST) : Prop := mem 35 55 = S.1 ∧ mem 35 56 = S.2.1 ∧ mem 74 = S.2.2.1 ∧ mem 75 = S.2.2.2.1 ∧ mem 76 = S.2.2.2.2
/-- only what the search keeps has changed -/
def FS (mem mm : Int → Int → Int) : Prop := ∀ a j : Int, a ≠ 70 → a ≠ 71 → a ≠ 72 → a ≠ 73 → a ≠ 74 → a ≠ 75 → a ≠ 76 → ¬ (a = 35 ∧ (j = 55 ∨ j = 56)) → mm a j = mem a j
theorem FS.rf {mem : Int → Int → Int} : FS mem mem := fun _ _ _ _ _ _ _ _ _ _ => rfl
theorem FS.tr {a b c : Int → Int → Int} (h1 : FS a b) (h2 : FS b c) : FS a c := fun x j q1 q2 q3 q4 q5 q6 q7 q8 => (h2 x j q1 q2 q3 q4 q5 q6 q7 q8).trans (h1 x j q1 q2 q3 q4 q5 q6 q7 q8)
theorem FS.of70 {mem mm : Int → Int → Int} (h : ∀ a j : Int, a ≠ 70 → mm a j = mem a j) : FS mem mm := fun a j q _ _ _ _ _ _ _ => h a j q
theorem FS.s {mem : Int → Int → Int} {a : Int} (k v : Int) (h : a = 70 ∨ a = 71 ∨ a = 72 ∨ a = 73 ∨ a = 74 ∨ a = 75 ∨ a = 76) : FS mem (set2 mem a k v) := fun x j _ _ _ _ _ _ _ _ => s2_a (by omega)
theorem FS.p {mem : Int → Int → Int} {k : Int} (v : Int) (h : k = 55 ∨ k = 56) : FS mem (set2 mem 35 k v) := fun x j _ _ _ _ _ _ _ q => by
  unfold set2
  exact if_neg (fun e => q (by omega))
def TRY (mem : Int → Int → Int) (u : Int) (tl tc ta : Int → Int) : Prop := ∀ j : Int, 0 ≤ j → j < u → mem 71 j = tl j ∧ mem 72 j = tc j ∧ mem 73 j = ta j
theorem skip_s {rs : Int → Int} {i N : Int} (h : i < N) (hz : wL (rs i) = wL 0) : skipN rs i (N - i).toNat = skipN rs (i + 1) (N - (i + 1)).toNat := by
  rw [show (N - i).toNat = (N - (i + 1)).toNat + 1 by omega]
  exact if_pos hz
theorem skip_e {rs : Int → Int} {i N : Int} (h : i < N) (hz : ¬ wL (rs i) = wL 0) : skipN rs i (N - i).toNat = i := by
  rw [show (N - i).toNat = (N - (i + 1)).toNat + 1 by omega]
  exact if_neg hz
theorem skip_n {rs : Int → Int} {N : Int} : skipN rs N (N - N).toNat = N := by rw [show (N - N).toNat = 0 by omega]; rfl
theorem markJ_in {N : Int} {rs : Int → Int} {k t a j x : Int} (h : k ≤ x ∧ x < k + j ∧ x < N) : markJ N rs k t a j x = rs x + (if (x - k) % 2 = 0 then a else -a) * chN t (x - k).toNat := if_pos h
theorem markJ_out {N : Int} {rs : Int → Int} {k t a j x : Int} (h : ¬ (k ≤ x ∧ x < k + j ∧ x < N)) : markJ N rs k t a j x = rs x := if_neg h
theorem markJ_s {N : Int} {rs : Int → Int} {k t a j : Int} {m : Int → Int → Int} (hj : 0 ≤ j) (hN : k + j < N) (h : ∀ x : Int, m 70 x = markJ N rs k t a j x) : ∀ x : Int, set2 m 70 (k + j) (m 70 (k + j) + (if j % 2 = 0 then a else -a) * chN t j.toNat) 70 x = markJ N rs k t a (j + 1) x := by
  intro x
  by_cases e : x = k + j
  · subst e
    rw [s2_s, h, markJ_out (by omega), markJ_in (by omega), show k + j - k = j by omega]
  · rw [s2_k e, h]
    by_cases c : k ≤ x ∧ x < k + j ∧ x < N
    · rw [markJ_in c, markJ_in (by omega)]
    · rw [markJ_out c, markJ_out (by omega)]
theorem markJ_end {N : Int} {rs : Int → Int} {k t a j : Int} (hj : j ≤ t + 1) (h : j = t + 1 ∨ N ≤ k + j) : markJ N rs k t a j = markJ N rs k t a (t + 1) := by
  funext x
  by_cases c : k ≤ x ∧ x < k + j ∧ x < N
  · rw [markJ_in c, markJ_in (by omega)]
  · rw [markJ_out c, markJ_out (by omega)]
theorem markJ_congr {N : Int} {rs rs' : Int → Int} {k t a : Int} (h : ∀ x : Int, 0 ≤ x → x < N → rs x = rs' x) : ∀ x : Int, 0 ≤ x → x < N → markJ N rs k t a (t + 1) x = markJ N rs' k t a (t + 1) x := by
  intro x h1 h2
  unfold markJ
  rw [h x h1 h2]
theorem markJ_back {N : Int} {rs : Int → Int} {k t a : Int} (x : Int) : markJ N (markJ N rs k t (-a) (t + 1)) k t a (t + 1) x = rs x := by
  by_cases c : k ≤ x ∧ x < k + (t + 1) ∧ x < N
  · rw [markJ_in c, markJ_in c]
    split
    · rw [Int.neg_mul]; omega
    · rw [Int.neg_neg, Int.neg_mul]; omega
  · rw [markJ_out c, markJ_out c]
theorem cpN_0 {m tl : Int → Int} {bl : Int → Int} (h : m = bl) : m = cpN 0 tl bl := by
  rw [h]
  funext j
  exact (if_neg (by omega)).symm
theorem cpN_1 {m : Int → Int → Int} {a j v : Int} {tl bl : Int → Int} (hj : 0 ≤ j) (h : m a = cpN j tl bl) (hv : v = tl j) (y : Int) : set2 m a j v a y = cpN (j + 1) tl bl y := by
  by_cases e : y = j
  · subst e
    rw [s2_s, hv]
    exact (if_pos (by omega)).symm
  · rw [s2_k e, h]
    unfold cpN
    by_cases c : 0 ≤ y ∧ y < j
    · rw [if_pos c, if_pos (by omega)]
    · rw [if_neg c, if_neg (by omega)]
theorem cp3 {m : Int → Int → Int} {j v1 v2 v3 : Int} {tl tc ta bl bc ba : Int → Int} (hj : 0 ≤ j) (h : m 74 = cpN j tl bl ∧ m 75 = cpN j tc bc ∧ m 76 = cpN j ta ba) (hv : v1 = tl j ∧ v2 = tc j ∧ v3 = ta j) :
    (set2 (set2 (set2 m 74 j v1) 75 j v2) 76 j v3) 74 = cpN (j + 1) tl bl ∧ (set2 (set2 (set2 m 74 j v1) 75 j v2) 76 j v3) 75 = cpN (j + 1) tc bc ∧ (set2 (set2 (set2 m 74 j v1) 75 j v2) 76 j v3) 76 = cpN (j + 1) ta ba := by
  refine ⟨funext fun y => ?_, funext fun y => ?_, funext fun y => ?_⟩
  · rw [s2_a (by decide), s2_a (by decide)]
    exact cpN_1 hj h.1 hv.1 y
  · rw [s2_a (by decide)]
    exact cpN_1 (m := set2 m 74 j v1) hj (by rw [← h.2.1]; exact funext fun y => s2_a (by decide)) hv.2.1 y
  · exact cpN_1 (m := set2 (set2 m 74 j v1) 75 j v2) hj (by rw [← h.2.2]; exact funext fun y => by rw [s2_a (by decide), s2_a (by decide)]) hv.2.2 y
theorem fin_new {m : Int → Int → Int} {u w : Int} {tl tc ta : Int → Int} {S : ST} (h : S.1 = -1 ∨ u < S.1) (h5 : m 35 55 = u) (h7 : m 74 = cpN u tl S.2.2.1 ∧ m 75 = cpN u tc S.2.2.2.1 ∧ m 76 = cpN u ta S.2.2.2.2) (hw : w = 1) : SKST (set2 m 35 56 w) (finS u tl tc ta S) := by
  unfold finS
  rw [if_pos h]
  exact ⟨by rw [s2_k (by decide)]; exact h5, by rw [s2_s]; exact hw, h7.1, h7.2.1, h7.2.2⟩
theorem fin_keep {m : Int → Int → Int} {u w : Int} {tl tc ta : Int → Int} {S : ST} (h : ¬ (S.1 = -1 ∨ u < S.1)) (hs : SKST m S) (hw : w = S.2.1 + (if u = S.1 then 1 else 0)) : SKST (set2 m 35 56 w) (finS u tl tc ta S) := by
  unfold finS
  rw [if_neg h]
  exact ⟨by rw [s2_k (by decide)]; exact hs.1, by rw [s2_s]; exact hw, hs.2.2.1, hs.2.2.2.1, hs.2.2.2.2⟩
theorem SKST.of {m mm : Int → Int → Int} {S : ST} (h : SKST m S) (e : ∀ a j : Int, a ≠ 70 → a ≠ 71 → a ≠ 72 → a ≠ 73 → mm a j = m a j) : SKST mm S := ⟨(e _ _ (by decide) (by decide) (by decide) (by decide)).trans h.1, (e _ _ (by decide) (by decide) (by decide) (by decide)).trans h.2.1, (funext fun j => e _ _ (by decide) (by decide) (by decide) (by decide)).trans h.2.2.1, (funext fun j => e _ _ (by decide) (by decide) (by decide) (by decide)).trans h.2.2.2.1, (funext fun j => e _ _ (by decide) (by decide) (by decide) (by decide)).trans h.2.2.2.2⟩
theorem try_up {m : Int → Int → Int} {u a b e a' b' e' : Int} {tl tc ta : Int → Int} (h : TRY m u tl tc ta) (ha : a = a') (hb : b = b') (he : e = e') : TRY (set2 (set2 (set2 m 71 u a) 72 u b) 73 u e) (u + 1) (upI tl u a') (upI tc u b') (upI ta u e') := by
  intro j h1 h2
  unfold upI
  by_cases q : j = u
  · rw [if_pos q, if_pos q, if_pos q, q]
    exact ⟨by rw [s2_a (by decide), s2_a (by decide), s2_s, ha], by rw [s2_a (by decide), s2_s, hb], by rw [s2_s, he]⟩
  · rw [if_neg q, if_neg q, if_neg q]
    have := h j h1 (by omega)
    exact ⟨by rw [s2_a (by decide), s2_a (by decide), s2_k q, this.1], by rw [s2_a (by decide), s2_k q, s2_a (by decide), this.2.1], by rw [s2_k q, s2_a (by decide), s2_a (by decide), this.2.2]⟩
theorem try_dn {m : Int → Int → Int} {u a b e : Int} {tl tc ta : Int → Int} (h : TRY m (u + 1) (upI tl u a) (upI tc u b) (upI ta u e)) : TRY m u tl tc ta := by
  intro j h1 h2
  have := h j h1 (by omega)
  unfold upI at this
  rw [if_neg (by omega), if_neg (by omega), if_neg (by omega)] at this
  exact this
theorem TRY.of {m mm : Int → Int → Int} {u : Int} {tl tc ta : Int → Int} (h : TRY m u tl tc ta) (e : mm 71 = m 71 ∧ mm 72 = m 72 ∧ mm 73 = m 73) : TRY mm u tl tc ta := by
  intro j h1 h2
  rw [e.1, e.2.1, e.2.2]
  exact h j h1 h2
theorem seekT {N o h : Int} {d : Nat} {u : Int} {rs : Int → Int} {i : Int} {tl tc ta : Int → Int} {S : ST} (hu : u = 4 - (d : Int)) (hk : skipN rs i (N - i).toNat = N) : seekF N o h d rs i tl tc ta S = finS u tl tc ta S := by
  cases d with
  | zero => rw [hu]; unfold seekF; exact if_pos hk
  | succ d => rw [show u = 3 - (d : Int) by omega]; unfold seekF; exact if_pos hk
theorem seekZ {N o h : Int} {rs : Int → Int} {i : Int} {tl tc ta : Int → Int} {S : ST} (hk : ¬ skipN rs i (N - i).toNat = N) : seekF N o h 0 rs i tl tc ta S = S := by
  unfold seekF
  exact if_neg hk
theorem seekL {N o h : Int} {d : Nat} {u k : Int} {rs : Int → Int} {i : Int} {tl tc ta : Int → Int} {S : ST} (hu : u = 3 - (d : Int)) (hk : skipN rs i (N - i).toNat = k) (hn : ¬ k = N) : seekF N o h (d + 1) rs i tl tc ta S = foldC (fun c => seekF N o h d (markJ N rs k (tmC o c) (-(rs k)) (tmC o c + 1)) (k + 1) (upI tl u (h + k)) (upI tc u (coC o c)) (upI ta u (rs k))) (o + 1).toNat S := by
  subst hk
  subst hu
  show (if _ then _ else _) = _
  exact if_neg hn
theorem foldC_s {f : Int → ST → ST} {c : Int} (hc : 0 ≤ c) (S : ST) : foldC f (c + 1).toNat S = f c (foldC f c.toNat S) := by
  rw [show (c + 1).toNat = c.toNat + 1 by omega, foldC, show ((c.toNat : Nat) : Int) = c by omega]
set_option maxHeartbeats 4000000 in
set_option maxRecDepth 100000 in
theorem c_X12_mark {l : Launch} {g : GP} (hG : GH g) {kd : Int → Nat} {ln : Int → Int} {mem : Int → Int → Int} {sz : Nat} (hS : SK kd ln) (hR : SR mem) (k t a : Int) (hk : 0 ≤ k ∧ k < 40) (ht : 0 ≤ t ∧ t ≤ 5) (hN : 0 ≤ mem 35 57 ∧ mem 35 57 ≤ 40) : MT l g yX12_mark cX12_mark 6 none 1 0 0 [(2, 35), (0, k), (0, t), (1, a)] kd ln mem sz (pMV (fun mem' => SR mem' ∧ ((∀ b j : Int, b ≠ 70 → mem' b j = mem b j) ∧ ∀ x : Int, mem' 70 x = markJ (mem 35 57) (mem 70) k t a (t + 1) x)) kd ln sz) := by
  refine MT_of hG (by decide +kernel) (Nat.le_of_ble_eq_true rfl) (fun z hF hr hn => ?_)
  refine jblk hF [(.iconst 0, 1), (.istore 5, 2)] (by decide +kernel) (pc' := 3) (lo' := [(5, (0, 0)), (0, (2, 35)), (1, (0, k)), (2, (0, t)), (3, (1, a))]) (st' := []) rfl ?_
  have L_2 : ∀ (fu_3 : Nat) (j : Int) (m1 : Int → Int → Int), (0 ≤ j ∧ j ≤ t + 1) → (SR m1) → (∀ b j : Int, b ≠ 70 → m1 b j = mem b j) → (∀ x : Int, m1 70 x = markJ (mem 35 57) (mem 70) k t a j x) →  (t + 1 - j).toNat < fu_3 → J z g 6 0 0 (QM z g 0 0 (pMV (fun mem' => SR mem' ∧ ((∀ b j : Int, b ≠ 70 → mem' b j = mem b j) ∧ ∀ x : Int, mem' 70 x = markJ (mem 35 57) (mem 70) k t a (t + 1) x)) kd ln sz)) 3 [(0, (2, 35)), (1, (0, k)), (2, (0, t)), (3, (1, a)), (5, (0, j))] [] kd ln m1 sz := by
    intro fu_3
    induction fu_3 with
    | zero => intro j m1 _ _ _ _ hm; omega
    | succ fu_3 ih_1 =>
      intro j m1 hj hR_m1 hf1 hx hm
      have e57 := hf1 35 57 (by decide)
      refine jblk hF [(.iload 5, 2), (.iload_n 2, 1)] (by decide +kernel) (pc' := 6) (lo' := [(0, (2, 35)), (1, (0, k)), (2, (0, t)), (3, (1, a)), (5, (0, j))]) (st' := [(0, t), (0, j)]) rfl ?_
      refine jicmp_gt hF (off := 52) 58 (by decide +kernel) (by decide) (by omega) (by omega) (fun h_4 => ?_) (fun h_4 => ?_)
      · refine jvret hF hr (by decide +kernel) ?_
        exact lMV ⟨hR_m1, by exact ⟨hf1, fun x => by rw [hx x, markJ_end (by omega) (by omega)]⟩⟩
      · refine jblk hF [(.iload_n 1, 1), (.iload 5, 2), (.iadd, 1), (.aload_n 0, 1)] (by decide +kernel) (pc' := 14) (lo' := [(0, (2, 35)), (1, (0, k)), (2, (0, t)), (3, (1, a)), (5, (0, j))]) (st' := [(2, 35), (0, k + j)]) rfl ?_
        refine jget hF 13 57 0 57 rfl (by decide) (by decide) rfl wd_1520 (by decide +kernel) (by exact hS.k35) ?_
        refine jicmp_ge hF (off := 41) 58 (by decide +kernel) (by decide) (by omega) (by omega) (fun h_5 => ?_) (fun h_5 => ?_)
        · refine jvret hF hr (by decide +kernel) ?_
          exact lMV ⟨hR_m1, by exact ⟨hf1, fun x => by rw [hx x, markJ_end (by omega) (by omega)]⟩⟩
        · refine jblk hF [(.aload_n 0, 1)] (by decide +kernel) (pc' := 21) (lo' := [(0, (2, 35)), (1, (0, k)), (2, (0, t)), (3, (1, a)), (5, (0, j))]) (st' := [(2, 35)]) rfl ?_
          refine jget hF 13 48 2 48 rfl (by decide) (by decide) rfl wd_1511 (by decide +kernel) (by exact hS.k35) ?_
          rw [SR.r48 hR_m1]
          refine jblk hF [(.iload_n 1, 1), (.iload 5, 2), (.iadd, 1)] (by decide +kernel) (pc' := 28) (lo' := [(0, (2, 35)), (1, (0, k)), (2, (0, t)), (3, (1, a)), (5, (0, j))]) (st' := [(0, k + j), (2, 70)]) rfl ?_
          refine jdup2 hF (by show ¬ (0 : Nat) = 1; decide) (by show ¬ (2 : Nat) = 1; decide) (by decide +kernel) ?_
          refine jlald hF (by decide +kernel) (by exact hS.k70) (by omega) (by have := hS.l70; omega) ?_
          refine jblk hF [(.iload 5, 2), (.iconst 2, 1)] (by decide +kernel) (pc' := 33) (lo' := [(0, (2, 35)), (1, (0, k)), (2, (0, t)), (3, (1, a)), (5, (0, j))]) (st' := [(0, 2), (0, j), (1, m1 70 (k + j)), (0, k + j), (2, 70)]) rfl ?_
          refine jiremN hF (by decide +kernel) (by omega) (by omega) ?_
          refine jif_ne hF (off := 7) 41 (by decide +kernel) (by decide) (by omega) (fun h_6 => ?_) (fun h_6 => ?_)
          · refine jblk hF [(.lload_n 3, 1), (.lneg, 1), (.iload_n 2, 1), (.iload 5, 2)] (by decide +kernel) (pc' := 46) (lo' := [(0, (2, 35)), (1, (0, k)), (2, (0, t)), (3, (1, a)), (5, (0, j))]) (st' := [(0, j), (0, t), (1, -a), (1, m1 70 (k + j)), (0, k + j), (2, 70)]) rfl ?_
            refine jcallS hF (c_X12_choose hG t j (by omega)) MW_X12_choose wd_2055 wd_2056 (by decide +kernel) [(1, -a), (1, m1 70 (k + j)), (0, k + j), (2, 70)] rfl rfl (by decide) (Nat.le_of_ble_eq_true rfl) (by decide) (kV ?_)
            have hf_7 := chN_5e (t) (j) (by omega)
            refine jblk hF [(.lmul, 1), (.ladd, 1)] (by decide +kernel) (pc' := 51) (lo' := [(0, (2, 35)), (1, (0, k)), (2, (0, t)), (3, (1, a)), (5, (0, j))]) (st' := [(1, (m1 70 (k + j)) + ((-a) * (chN t j.toNat))), (0, k + j), (2, 70)]) rfl ?_
            refine jlast hF (by decide +kernel) (by decide) (by exact hS.k70) (by omega) (by have := hS.l70; omega) ?_
            refine jblk hF [(.iinc 5 1, 3)] (by decide +kernel) (pc' := 55) (lo' := [(5, (0, j + 1)), (0, (2, 35)), (1, (0, k)), (2, (0, t)), (3, (1, a))]) (st' := []) rfl ?_
            refine jgoto hF (off := (-52)) 3 (by decide +kernel) (by decide) ?_
            refine jsub [1, 2, 3, 4, 0] rfl ?_
            refine ih_1 (j + 1) (set2 m1 70 (k + j) ((m1 70 (k + j)) + ((-a) * (chN t j.toNat)))) ?_ ?_ ?_ ?_ ?_
            · omega
            · exact hR_m1.s (Or.inl (by decide))
            · intro b j h; rw [s2_a h]; exact hf1 b j h
            · have hq := markJ_s (by omega) (by omega) hx; first | (rw [if_pos (by omega)] at hq; exact hq) | (rw [if_neg (by omega)] at hq; exact hq)
            · omega
          · refine jblk hF [(.lload_n 3, 1)] (by decide +kernel) (pc' := 38) (lo' := [(0, (2, 35)), (1, (0, k)), (2, (0, t)), (3, (1, a)), (5, (0, j))]) (st' := [(1, a), (1, m1 70 (k + j)), (0, k + j), (2, 70)]) rfl ?_
            refine jgoto hF (off := 5) 43 (by decide +kernel) (by decide) ?_
            refine jblk hF [(.iload_n 2, 1), (.iload 5, 2)] (by decide +kernel) (pc' := 46) (lo' := [(0, (2, 35)), (1, (0, k)), (2, (0, t)), (3, (1, a)), (5, (0, j))]) (st' := [(0, j), (0, t), (1, a), (1, m1 70 (k + j)), (0, k + j), (2, 70)]) rfl ?_
            refine jcallS hF (c_X12_choose hG t j (by omega)) MW_X12_choose wd_2055 wd_2056 (by decide +kernel) [(1, a), (1, m1 70 (k + j)), (0, k + j), (2, 70)] rfl rfl (by decide) (Nat.le_of_ble_eq_true rfl) (by decide) (kV ?_)
            have hf_8 := chN_5e (t) (j) (by omega)
            refine jblk hF [(.lmul, 1), (.ladd, 1)] (by decide +kernel) (pc' := 51) (lo' := [(0, (2, 35)), (1, (0, k)), (2, (0, t)), (3, (1, a)), (5, (0, j))]) (st' := [(1, (m1 70 (k + j)) + (a * (chN t j.toNat))), (0, k + j), (2, 70)]) rfl ?_
            refine jlast hF (by decide +kernel) (by decide) (by exact hS.k70) (by omega) (by have := hS.l70; omega) ?_
            refine jblk hF [(.iinc 5 1, 3)] (by decide +kernel) (pc' := 55) (lo' := [(5, (0, j + 1)), (0, (2, 35)), (1, (0, k)), (2, (0, t)), (3, (1, a))]) (st' := []) rfl ?_
            refine jgoto hF (off := (-52)) 3 (by decide +kernel) (by decide) ?_
            refine jsub [1, 2, 3, 4, 0] rfl ?_
            refine ih_1 (j + 1) (set2 m1 70 (k + j) ((m1 70 (k + j)) + (a * (chN t j.toNat)))) ?_ ?_ ?_ ?_ ?_
            · omega
            · exact hR_m1.s (Or.inl (by decide))
            · intro b j h; rw [s2_a h]; exact hf1 b j h
            · have hq := markJ_s (by omega) (by omega) hx; first | (rw [if_pos (by omega)] at hq; exact hq) | (rw [if_neg (by omega)] at hq; exact hq)
            · omega
  refine jsub [1, 2, 3, 4, 0] rfl ?_
  refine L_2 _ 0 mem ?_ ?_ ?_ ?_ (Nat.lt_succ_self _)
  · omega
  · exact hR
  · intro b j _; rfl
  · intro x; unfold markJ; rw [if_neg (by omega)]
set_option maxHeartbeats 4000000 in
set_option maxRecDepth 100000 in
theorem c_seek4 {l : Launch} {g : GP} (hG : GH g) {kd : Int → Nat} {ln : Int → Int} {mem : Int → Int → Int} {sz : Nat} (hS : SK kd ln) (hR : SR mem) (i used : Int) (rs : Int → Int) (tl : Int → Int) (tc : Int → Int) (ta : Int → Int) (S : ST) (hu : used = 4) (hi : 0 ≤ i ∧ i ≤ mem 35 57) (hN : 0 ≤ mem 35 57 ∧ mem 35 57 ≤ 40) (ho : 0 ≤ mem 35 58 ∧ mem 35 58 ≤ 4) (hh : 0 ≤ mem 35 59 ∧ mem 35 59 ≤ 40) (hrs : ∀ x : Int, 0 ≤ x → x < mem 35 57 → mem 70 x = rs x) (htr : TRY mem 4 tl tc ta) (hst : SKST mem S) (hsb : SB S) : MT l g yX12_seek cX12_seek 8 none 0 0 0 [(2, 35), (0, i), (0, used)] kd ln mem sz (pMV (fun mem' => SR mem' ∧ (FS mem mem' ∧ (∀ x : Int, 0 ≤ x → x < mem 35 57 → mem' 70 x = mem 70 x) ∧ TRY mem' 4 tl tc ta ∧ SKST mem' (seekF (mem 35 57) (mem 35 58) (mem 35 59) 0 rs i tl tc ta S))) kd ln sz) := by
  refine MT_of hG (by decide +kernel) (Nat.le_of_ble_eq_true rfl) (fun z hF hr hn => ?_)
  have hb1 := hsb.1
  have hb2 := hsb.2
  have h55 := hst.1
  have h56 := hst.2.1
  refine jblk hF [(.iload_n 1, 1), (.istore_n 3, 1)] (by decide +kernel) (pc' := 2) (lo' := [(3, (0, i)), (0, (2, 35)), (1, (0, i)), (2, (0, used))]) (st' := []) rfl ?_
  have L_2 : ∀ (fu_3 : Nat) (k : Int), (i ≤ k ∧ k ≤ mem 35 57) → (skipN rs i (mem 35 57 - i).toNat = skipN rs k (mem 35 57 - k).toNat) →  (mem 35 57 - k).toNat < fu_3 → J z g 8 0 0 (QM z g 0 0 (pMV (fun mem' => SR mem' ∧ (FS mem mem' ∧ (∀ x : Int, 0 ≤ x → x < mem 35 57 → mem' 70 x = mem 70 x) ∧ TRY mem' 4 tl tc ta ∧ SKST mem' (seekF (mem 35 57) (mem 35 58) (mem 35 59) 0 rs i tl tc ta S))) kd ln sz)) 2 [(0, (2, 35)), (1, (0, i)), (2, (0, used)), (3, (0, k))] [] kd ln mem sz := by
    intro fu_3
    induction fu_3 with
    | zero => intro k _ _ hm; omega
    | succ fu_3 ih_1 =>
      intro k hk hsk hm
      have hrk : k < mem 35 57 → mem 70 k = rs k := fun h => hrs k (by omega) h
      refine jblk hF [(.iload_n 3, 1), (.aload_n 0, 1)] (by decide +kernel) (pc' := 4) (lo' := [(0, (2, 35)), (1, (0, i)), (2, (0, used)), (3, (0, k))]) (st' := [(2, 35), (0, k)]) rfl ?_
      refine jget hF 13 57 0 57 rfl (by decide) (by decide) rfl wd_1520 (by decide +kernel) (by exact hS.k35) ?_
      refine jicmp_ge hF (off := 20) 27 (by decide +kernel) (by decide) (by omega) (by omega) (fun h_4 => ?_) (fun h_4 => ?_)
      · refine jblk hF [(.iload_n 3, 1), (.aload_n 0, 1)] (by decide +kernel) (pc' := 29) (lo' := [(0, (2, 35)), (1, (0, i)), (2, (0, used)), (3, (0, k))]) (st' := [(2, 35), (0, k)]) rfl ?_
        refine jget hF 13 57 0 57 rfl (by decide) (by decide) rfl wd_1520 (by decide +kernel) (by exact hS.k35) ?_
        refine jicmp_ne hF (off := 109) 141 (by decide +kernel) (by decide) (by omega) (by omega) (fun h_5 => ?_) (fun h_5 => ?_)
        · refine jblk hF [(.iload_n 2, 1), (.iconst 4, 1)] (by decide +kernel) (pc' := 143) (lo' := [(0, (2, 35)), (1, (0, i)), (2, (0, used)), (3, (0, k))]) (st' := [(0, 4), (0, used)]) rfl ?_
          refine jicmp_ne hF (off := 4) 147 (by decide +kernel) (by decide) (by omega) (by decide) (fun h_6 => ?_) (fun h_6 => ?_)
          · exact absurd hu (by omega)
          · refine jvret hF hr (by decide +kernel) ?_
            exact lMV ⟨hR, by exact ⟨FS.rf, fun x _ _ => rfl, htr, by rw [seekZ (by rw [hsk, skip_e (by omega) (by rw [← hrk (by omega)]; first | assumption | omega)]; omega)]; exact hst⟩⟩
        · refine jblk hF [(.aload_n 0, 1)] (by decide +kernel) (pc' := 36) (lo' := [(0, (2, 35)), (1, (0, i)), (2, (0, used)), (3, (0, k))]) (st' := [(2, 35)]) rfl ?_
          refine jget hF 13 55 0 55 rfl (by decide) (by decide) rfl wd_1518 (by decide +kernel) (by exact hS.k35) ?_
          refine jblk hF [(.iconst (-1), 1)] (by decide +kernel) (pc' := 40) (lo' := [(0, (2, 35)), (1, (0, i)), (2, (0, used)), (3, (0, k))]) (st' := [(0, (-1)), (0, mem 35 55)]) rfl ?_
          refine jicmp_eq hF (off := 11) 51 (by decide +kernel) (by decide) (by omega) (by decide) (fun h_7 => ?_) (fun h_7 => ?_)
          · have hkN : k = mem 35 57 := by omega
            refine jblk hF [(.aload_n 0, 1), (.iload_n 2, 1)] (by decide +kernel) (pc' := 53) (lo' := [(0, (2, 35)), (1, (0, i)), (2, (0, used)), (3, (0, k))]) (st' := [(0, used), (2, 35)]) rfl ?_
            refine jput hF 13 55 0 55 rfl (by decide) (by decide) rfl wd_1518 (by decide +kernel) rfl (Or.inl rfl) (by exact hS.k35) (fun h => by cases h) ?_
            refine jblk hF [(.aload_n 0, 1), (.iconst 0, 1)] (by decide +kernel) (pc' := 58) (lo' := [(0, (2, 35)), (1, (0, i)), (2, (0, used)), (3, (0, k))]) (st' := [(0, 0), (2, 35)]) rfl ?_
            refine jput hF 13 56 0 56 rfl (by decide) (by decide) rfl wd_1519 (by decide +kernel) rfl (Or.inl rfl) (by exact hS.k35) (fun h => by cases h) ?_
            refine jblk hF [(.iconst 0, 1), (.istore 4, 2)] (by decide +kernel) (pc' := 64) (lo' := [(4, (0, 0)), (0, (2, 35)), (1, (0, i)), (2, (0, used)), (3, (0, k))]) (st' := []) rfl ?_
            have L_9 : ∀ (fu_10 : Nat) (j : Int) (m1 : Int → Int → Int), (0 ≤ j ∧ j ≤ 4) → (SR m1) → (FS mem m1) → (m1 70 = mem 70 ∧ m1 71 = mem 71 ∧ m1 72 = mem 72 ∧ m1 73 = mem 73) → (m1 35 55 = used ∧ m1 35 56 = 0) → (m1 74 = cpN j tl S.2.2.1 ∧ m1 75 = cpN j tc S.2.2.2.1 ∧ m1 76 = cpN j ta S.2.2.2.2) →  (4 - j).toNat < fu_10 → J z g 8 0 0 (QM z g 0 0 (pMV (fun mem' => SR mem' ∧ (FS mem mem' ∧ (∀ x : Int, 0 ≤ x → x < mem 35 57 → mem' 70 x = mem 70 x) ∧ TRY mem' 4 tl tc ta ∧ SKST mem' (seekF (mem 35 57) (mem 35 58) (mem 35 59) 0 rs i tl tc ta S))) kd ln sz)) 64 [(0, (2, 35)), (1, (0, i)), (2, (0, used)), (3, (0, k)), (4, (0, j))] [] kd ln m1 sz := by
              intro fu_10
              induction fu_10 with
              | zero => intro j m1 _ _ _ _ _ _ hm; omega
              | succ fu_10 ih_8 =>
                intro j m1 hj hR_m1 hfs hz70 hz55 hz74 hm1
                refine jblk hF [(.iload 4, 2), (.iload_n 2, 1)] (by decide +kernel) (pc' := 67) (lo' := [(0, (2, 35)), (1, (0, i)), (2, (0, used)), (3, (0, k)), (4, (0, j))]) (st' := [(0, used), (0, j)]) rfl ?_
                refine jicmp_ge hF (off := 51) 118 (by decide +kernel) (by decide) (by omega) (by omega) (fun h_11 => ?_) (fun h_11 => ?_)
                · refine jblk hF [(.aload_n 0, 1), (.dup, 1)] (by decide +kernel) (pc' := 120) (lo' := [(0, (2, 35)), (1, (0, i)), (2, (0, used)), (3, (0, k)), (4, (0, j))]) (st' := [(2, 35), (2, 35)]) rfl ?_
                  refine jget hF 13 56 0 56 rfl (by decide) (by decide) rfl wd_1519 (by decide +kernel) (by exact hS.k35) ?_
                  refine jblk hF [(.iload_n 2, 1), (.aload_n 0, 1)] (by decide +kernel) (pc' := 125) (lo' := [(0, (2, 35)), (1, (0, i)), (2, (0, used)), (3, (0, k)), (4, (0, j))]) (st' := [(2, 35), (0, used), (0, m1 35 56), (2, 35)]) rfl ?_
                  refine jget hF 13 55 0 55 rfl (by decide) (by decide) rfl wd_1518 (by decide +kernel) (by exact hS.k35) ?_
                  refine jicmp_ne hF (off := 7) 135 (by decide +kernel) (by decide) (by omega) (by omega) (fun h_12 => ?_) (fun h_12 => ?_)
                  · refine jblk hF [(.iconst 0, 1), (.iadd, 1)] (by decide +kernel) (pc' := 137) (lo' := [(0, (2, 35)), (1, (0, i)), (2, (0, used)), (3, (0, k)), (4, (0, j))]) (st' := [(0, (m1 35 56) + 0), (2, 35)]) rfl ?_
                    refine jput hF 13 56 0 56 rfl (by decide) (by decide) rfl wd_1519 (by decide +kernel) rfl (Or.inl rfl) (by exact hS.k35) (fun h => by cases h) ?_
                    refine jvret hF hr (by decide +kernel) ?_
                    exact lMV ⟨(SR.s hR_m1 (Or.inr (by decide))), by have hkN : k = mem 35 57 := (by omega); have hsT : skipN rs i (mem 35 57 - i).toNat = mem 35 57 := (by rw [hsk, hkN]; exact skip_n); rw [seekT (u := 4) (by decide) hsT]; first | exact ⟨hfs.tr (FS.p _ (by decide)), fun x _ _ => congrFun hz70.1 x, htr.of ⟨hz70.2.1, hz70.2.2.1, hz70.2.2.2⟩, fin_new (by omega) (by rw [hz55.1]; exact hu) (by rw [show (4 : Int) = j by omega]; exact hz74) (by omega)⟩ | exact ⟨FS.p _ (by decide), fun x _ _ => rfl, htr, fin_keep (by omega) hst (by first | (rw [if_pos (by omega)]; omega) | (rw [if_neg (by omega)]; omega))⟩ | (exfalso; omega)⟩
                  · refine jblk hF [(.iconst 1, 1)] (by decide +kernel) (pc' := 132) (lo' := [(0, (2, 35)), (1, (0, i)), (2, (0, used)), (3, (0, k)), (4, (0, j))]) (st' := [(0, 1), (0, m1 35 56), (2, 35)]) rfl ?_
                    refine jgoto hF (off := 4) 136 (by decide +kernel) (by decide) ?_
                    refine jblk hF [(.iadd, 1)] (by decide +kernel) (pc' := 137) (lo' := [(0, (2, 35)), (1, (0, i)), (2, (0, used)), (3, (0, k)), (4, (0, j))]) (st' := [(0, (m1 35 56) + 1), (2, 35)]) rfl ?_
                    refine jput hF 13 56 0 56 rfl (by decide) (by decide) rfl wd_1519 (by decide +kernel) rfl (Or.inl rfl) (by exact hS.k35) (fun h => by cases h) ?_
                    refine jvret hF hr (by decide +kernel) ?_
                    exact lMV ⟨(SR.s hR_m1 (Or.inr (by decide))), by have hkN : k = mem 35 57 := (by omega); have hsT : skipN rs i (mem 35 57 - i).toNat = mem 35 57 := (by rw [hsk, hkN]; exact skip_n); rw [seekT (u := 4) (by decide) hsT]; first | exact ⟨hfs.tr (FS.p _ (by decide)), fun x _ _ => congrFun hz70.1 x, htr.of ⟨hz70.2.1, hz70.2.2.1, hz70.2.2.2⟩, fin_new (by omega) (by rw [hz55.1]; exact hu) (by rw [show (4 : Int) = j by omega]; exact hz74) (by omega)⟩ | exact ⟨FS.p _ (by decide), fun x _ _ => rfl, htr, fin_keep (by omega) hst (by first | (rw [if_pos (by omega)]; omega) | (rw [if_neg (by omega)]; omega))⟩ | (exfalso; omega)⟩
                · refine jblk hF [(.aload_n 0, 1)] (by decide +kernel) (pc' := 71) (lo' := [(0, (2, 35)), (1, (0, i)), (2, (0, used)), (3, (0, k)), (4, (0, j))]) (st' := [(2, 35)]) rfl ?_
                  refine jget hF 13 52 2 52 rfl (by decide) (by decide) rfl wd_1515 (by decide +kernel) (by exact hS.k35) ?_
                  rw [SR.r52 hR_m1]
                  refine jblk hF [(.iload 4, 2), (.aload_n 0, 1)] (by decide +kernel) (pc' := 77) (lo' := [(0, (2, 35)), (1, (0, i)), (2, (0, used)), (3, (0, k)), (4, (0, j))]) (st' := [(2, 35), (0, j), (2, 74)]) rfl ?_
                  refine jget hF 13 49 2 49 rfl (by decide) (by decide) rfl wd_1512 (by decide +kernel) (by exact hS.k35) ?_
                  rw [SR.r49 hR_m1]
                  refine jblk hF [(.iload 4, 2)] (by decide +kernel) (pc' := 82) (lo' := [(0, (2, 35)), (1, (0, i)), (2, (0, used)), (3, (0, k)), (4, (0, j))]) (st' := [(0, j), (2, 71), (0, j), (2, 74)]) rfl ?_
                  refine jiald hF (by decide +kernel) (by exact hS.k71) (by omega) (by have := hS.l71; omega) ?_
                  refine jiast hF (by decide +kernel) (by decide) (by exact hS.k74) (by omega) (by have := hS.l74; omega) ?_
                  refine jblk hF [(.aload_n 0, 1)] (by decide +kernel) (pc' := 85) (lo' := [(0, (2, 35)), (1, (0, i)), (2, (0, used)), (3, (0, k)), (4, (0, j))]) (st' := [(2, 35)]) rfl ?_
                  refine jget hF 13 53 2 53 rfl (by decide) (by decide) rfl wd_1516 (by decide +kernel) (by exact hS.k35) ?_
                  rw [SR.r53 (SR.s hR_m1 (Or.inl (by decide)))]
                  refine jblk hF [(.iload 4, 2), (.aload_n 0, 1)] (by decide +kernel) (pc' := 91) (lo' := [(0, (2, 35)), (1, (0, i)), (2, (0, used)), (3, (0, k)), (4, (0, j))]) (st' := [(2, 35), (0, j), (2, 75)]) rfl ?_
                  refine jget hF 13 50 2 50 rfl (by decide) (by decide) rfl wd_1513 (by decide +kernel) (by exact hS.k35) ?_
                  rw [SR.r50 (SR.s hR_m1 (Or.inl (by decide)))]
                  refine jblk hF [(.iload 4, 2)] (by decide +kernel) (pc' := 96) (lo' := [(0, (2, 35)), (1, (0, i)), (2, (0, used)), (3, (0, k)), (4, (0, j))]) (st' := [(0, j), (2, 72), (0, j), (2, 75)]) rfl ?_
                  refine jiald hF (by decide +kernel) (by exact hS.k72) (by omega) (by have := hS.l72; omega) ?_
                  rw [show (set2 m1 74 j (m1 71 j)) 72 j = m1 72 j from (s2_a (by decide))]
                  refine jiast hF (by decide +kernel) (by decide) (by exact hS.k75) (by omega) (by have := hS.l75; omega) ?_
                  refine jblk hF [(.aload_n 0, 1)] (by decide +kernel) (pc' := 99) (lo' := [(0, (2, 35)), (1, (0, i)), (2, (0, used)), (3, (0, k)), (4, (0, j))]) (st' := [(2, 35)]) rfl ?_
                  refine jget hF 13 54 2 54 rfl (by decide) (by decide) rfl wd_1517 (by decide +kernel) (by exact hS.k35) ?_
                  rw [SR.r54 (SR.s (SR.s hR_m1 (Or.inl (by decide))) (Or.inl (by decide)))]
                  refine jblk hF [(.iload 4, 2), (.aload_n 0, 1)] (by decide +kernel) (pc' := 105) (lo' := [(0, (2, 35)), (1, (0, i)), (2, (0, used)), (3, (0, k)), (4, (0, j))]) (st' := [(2, 35), (0, j), (2, 76)]) rfl ?_
                  refine jget hF 13 51 2 51 rfl (by decide) (by decide) rfl wd_1514 (by decide +kernel) (by exact hS.k35) ?_
                  rw [SR.r51 (SR.s (SR.s hR_m1 (Or.inl (by decide))) (Or.inl (by decide)))]
                  refine jblk hF [(.iload 4, 2)] (by decide +kernel) (pc' := 110) (lo' := [(0, (2, 35)), (1, (0, i)), (2, (0, used)), (3, (0, k)), (4, (0, j))]) (st' := [(0, j), (2, 73), (0, j), (2, 76)]) rfl ?_
                  refine jlald hF (by decide +kernel) (by exact hS.k73) (by omega) (by have := hS.l73; omega) ?_
                  rw [show (set2 (set2 m1 74 j (m1 71 j)) 75 j (m1 72 j)) 73 j = m1 73 j from ((s2_a (by decide)).trans (s2_a (by decide)))]
                  refine jlast hF (by decide +kernel) (by decide) (by exact hS.k76) (by omega) (by have := hS.l76; omega) ?_
                  refine jblk hF [(.iinc 4 1, 3)] (by decide +kernel) (pc' := 115) (lo' := [(4, (0, j + 1)), (0, (2, 35)), (1, (0, i)), (2, (0, used)), (3, (0, k))]) (st' := []) rfl ?_
                  refine jgoto hF (off := (-51)) 64 (by decide +kernel) (by decide) ?_
                  refine jsub [1, 2, 3, 4, 0] rfl ?_
                  refine ih_8 (j + 1) (set2 (set2 (set2 m1 74 j (m1 71 j)) 75 j (m1 72 j)) 76 j (m1 73 j)) ?_ ?_ ?_ ?_ ?_ ?_ ?_
                  · omega
                  · exact ((hR_m1.s (Or.inl (by decide))).s (Or.inl (by decide))).s (Or.inl (by decide))
                  · exact ((hfs.tr (FS.s _ _ (by decide))).tr (FS.s _ _ (by decide))).tr (FS.s _ _ (by decide))
                  · exact ⟨hz70.1, hz70.2.1, hz70.2.2.1, hz70.2.2.2⟩
                  · exact hz55
                  · have h9 := htr j (by omega) (by omega); exact cp3 (by omega) hz74 ⟨by rw [hz70.2.1]; exact h9.1, by rw [hz70.2.2.1]; exact h9.2.1, by rw [hz70.2.2.2]; exact h9.2.2⟩
                  · omega
            refine jsub [1, 2, 3, 4, 0] rfl ?_
            refine L_9 _ 0 (set2 (set2 mem 35 55 used) 35 56 0) ?_ ?_ ?_ ?_ ?_ ?_ (Nat.lt_succ_self _)
            · omega
            · exact (hR.s (Or.inr (by decide))).s (Or.inr (by decide))
            · exact (FS.p _ (by decide)).tr (FS.p _ (by decide))
            · exact ⟨rfl, rfl, rfl, rfl⟩
            · exact ⟨by rw [s2_k (by decide), s2_s], by rw [s2_s]⟩
            · exact ⟨cpN_0 hst.2.2.1, cpN_0 hst.2.2.2.1, cpN_0 hst.2.2.2.2⟩
          · refine jblk hF [(.iload_n 2, 1), (.aload_n 0, 1)] (by decide +kernel) (pc' := 45) (lo' := [(0, (2, 35)), (1, (0, i)), (2, (0, used)), (3, (0, k))]) (st' := [(2, 35), (0, used)]) rfl ?_
            refine jget hF 13 55 0 55 rfl (by decide) (by decide) rfl wd_1518 (by decide +kernel) (by exact hS.k35) ?_
            refine jicmp_ge hF (off := 70) 118 (by decide +kernel) (by decide) (by omega) (by omega) (fun h_13 => ?_) (fun h_13 => ?_)
            · refine jblk hF [(.aload_n 0, 1), (.dup, 1)] (by decide +kernel) (pc' := 120) (lo' := [(0, (2, 35)), (1, (0, i)), (2, (0, used)), (3, (0, k))]) (st' := [(2, 35), (2, 35)]) rfl ?_
              refine jget hF 13 56 0 56 rfl (by decide) (by decide) rfl wd_1519 (by decide +kernel) (by exact hS.k35) ?_
              refine jblk hF [(.iload_n 2, 1), (.aload_n 0, 1)] (by decide +kernel) (pc' := 125) (lo' := [(0, (2, 35)), (1, (0, i)), (2, (0, used)), (3, (0, k))]) (st' := [(2, 35), (0, used), (0, mem 35 56), (2, 35)]) rfl ?_
              refine jget hF 13 55 0 55 rfl (by decide) (by decide) rfl wd_1518 (by decide +kernel) (by exact hS.k35) ?_
              refine jicmp_ne hF (off := 7) 135 (by decide +kernel) (by decide) (by omega) (by omega) (fun h_14 => ?_) (fun h_14 => ?_)
              · refine jblk hF [(.iconst 0, 1), (.iadd, 1)] (by decide +kernel) (pc' := 137) (lo' := [(0, (2, 35)), (1, (0, i)), (2, (0, used)), (3, (0, k))]) (st' := [(0, (mem 35 56) + 0), (2, 35)]) rfl ?_
                refine jput hF 13 56 0 56 rfl (by decide) (by decide) rfl wd_1519 (by decide +kernel) rfl (Or.inl rfl) (by exact hS.k35) (fun h => by cases h) ?_
                refine jvret hF hr (by decide +kernel) ?_
                exact lMV ⟨(SR.s hR (Or.inr (by decide))), by have hkN : k = mem 35 57 := (by omega); have hsT : skipN rs i (mem 35 57 - i).toNat = mem 35 57 := (by rw [hsk, hkN]; exact skip_n); rw [seekT (u := 4) (by decide) hsT]; first | exact ⟨hfs.tr (FS.p _ (by decide)), fun x _ _ => congrFun hz70.1 x, htr.of ⟨hz70.2.1, hz70.2.2.1, hz70.2.2.2⟩, fin_new (by omega) (by rw [hz55.1]; exact hu) (by rw [show (4 : Int) = j by omega]; exact hz74) (by omega)⟩ | exact ⟨FS.p _ (by decide), fun x _ _ => rfl, htr, fin_keep (by omega) hst (by first | (rw [if_pos (by omega)]; omega) | (rw [if_neg (by omega)]; omega))⟩ | (exfalso; omega)⟩
              · refine jblk hF [(.iconst 1, 1)] (by decide +kernel) (pc' := 132) (lo' := [(0, (2, 35)), (1, (0, i)), (2, (0, used)), (3, (0, k))]) (st' := [(0, 1), (0, mem 35 56), (2, 35)]) rfl ?_
                refine jgoto hF (off := 4) 136 (by decide +kernel) (by decide) ?_
                refine jblk hF [(.iadd, 1)] (by decide +kernel) (pc' := 137) (lo' := [(0, (2, 35)), (1, (0, i)), (2, (0, used)), (3, (0, k))]) (st' := [(0, (mem 35 56) + 1), (2, 35)]) rfl ?_
                refine jput hF 13 56 0 56 rfl (by decide) (by decide) rfl wd_1519 (by decide +kernel) rfl (Or.inl rfl) (by exact hS.k35) (fun h => by cases h) ?_
                refine jvret hF hr (by decide +kernel) ?_
                exact lMV ⟨(SR.s hR (Or.inr (by decide))), by have hkN : k = mem 35 57 := (by omega); have hsT : skipN rs i (mem 35 57 - i).toNat = mem 35 57 := (by rw [hsk, hkN]; exact skip_n); rw [seekT (u := 4) (by decide) hsT]; first | exact ⟨hfs.tr (FS.p _ (by decide)), fun x _ _ => congrFun hz70.1 x, htr.of ⟨hz70.2.1, hz70.2.2.1, hz70.2.2.2⟩, fin_new (by omega) (by rw [hz55.1]; exact hu) (by rw [show (4 : Int) = j by omega]; exact hz74) (by omega)⟩ | exact ⟨FS.p _ (by decide), fun x _ _ => rfl, htr, fin_keep (by omega) hst (by first | (rw [if_pos (by omega)]; omega) | (rw [if_neg (by omega)]; omega))⟩ | (exfalso; omega)⟩
            · have hkN : k = mem 35 57 := by omega
              refine jblk hF [(.aload_n 0, 1), (.iload_n 2, 1)] (by decide +kernel) (pc' := 53) (lo' := [(0, (2, 35)), (1, (0, i)), (2, (0, used)), (3, (0, k))]) (st' := [(0, used), (2, 35)]) rfl ?_
              refine jput hF 13 55 0 55 rfl (by decide) (by decide) rfl wd_1518 (by decide +kernel) rfl (Or.inl rfl) (by exact hS.k35) (fun h => by cases h) ?_
              refine jblk hF [(.aload_n 0, 1), (.iconst 0, 1)] (by decide +kernel) (pc' := 58) (lo' := [(0, (2, 35)), (1, (0, i)), (2, (0, used)), (3, (0, k))]) (st' := [(0, 0), (2, 35)]) rfl ?_
              refine jput hF 13 56 0 56 rfl (by decide) (by decide) rfl wd_1519 (by decide +kernel) rfl (Or.inl rfl) (by exact hS.k35) (fun h => by cases h) ?_
              refine jblk hF [(.iconst 0, 1), (.istore 4, 2)] (by decide +kernel) (pc' := 64) (lo' := [(4, (0, 0)), (0, (2, 35)), (1, (0, i)), (2, (0, used)), (3, (0, k))]) (st' := []) rfl ?_
              have L_16 : ∀ (fu_17 : Nat) (j : Int) (m1 : Int → Int → Int), (0 ≤ j ∧ j ≤ 4) → (SR m1) → (FS mem m1) → (m1 70 = mem 70 ∧ m1 71 = mem 71 ∧ m1 72 = mem 72 ∧ m1 73 = mem 73) → (m1 35 55 = used ∧ m1 35 56 = 0) → (m1 74 = cpN j tl S.2.2.1 ∧ m1 75 = cpN j tc S.2.2.2.1 ∧ m1 76 = cpN j ta S.2.2.2.2) →  (4 - j).toNat < fu_17 → J z g 8 0 0 (QM z g 0 0 (pMV (fun mem' => SR mem' ∧ (FS mem mem' ∧ (∀ x : Int, 0 ≤ x → x < mem 35 57 → mem' 70 x = mem 70 x) ∧ TRY mem' 4 tl tc ta ∧ SKST mem' (seekF (mem 35 57) (mem 35 58) (mem 35 59) 0 rs i tl tc ta S))) kd ln sz)) 64 [(0, (2, 35)), (1, (0, i)), (2, (0, used)), (3, (0, k)), (4, (0, j))] [] kd ln m1 sz := by
                intro fu_17
                induction fu_17 with
                | zero => intro j m1 _ _ _ _ _ _ hm; omega
                | succ fu_17 ih_15 =>
                  intro j m1 hj hR_m1 hfs hz70 hz55 hz74 hm1
                  refine jblk hF [(.iload 4, 2), (.iload_n 2, 1)] (by decide +kernel) (pc' := 67) (lo' := [(0, (2, 35)), (1, (0, i)), (2, (0, used)), (3, (0, k)), (4, (0, j))]) (st' := [(0, used), (0, j)]) rfl ?_
                  refine jicmp_ge hF (off := 51) 118 (by decide +kernel) (by decide) (by omega) (by omega) (fun h_18 => ?_) (fun h_18 => ?_)
                  · refine jblk hF [(.aload_n 0, 1), (.dup, 1)] (by decide +kernel) (pc' := 120) (lo' := [(0, (2, 35)), (1, (0, i)), (2, (0, used)), (3, (0, k)), (4, (0, j))]) (st' := [(2, 35), (2, 35)]) rfl ?_
                    refine jget hF 13 56 0 56 rfl (by decide) (by decide) rfl wd_1519 (by decide +kernel) (by exact hS.k35) ?_
                    refine jblk hF [(.iload_n 2, 1), (.aload_n 0, 1)] (by decide +kernel) (pc' := 125) (lo' := [(0, (2, 35)), (1, (0, i)), (2, (0, used)), (3, (0, k)), (4, (0, j))]) (st' := [(2, 35), (0, used), (0, m1 35 56), (2, 35)]) rfl ?_
                    refine jget hF 13 55 0 55 rfl (by decide) (by decide) rfl wd_1518 (by decide +kernel) (by exact hS.k35) ?_
                    refine jicmp_ne hF (off := 7) 135 (by decide +kernel) (by decide) (by omega) (by omega) (fun h_19 => ?_) (fun h_19 => ?_)
                    · refine jblk hF [(.iconst 0, 1), (.iadd, 1)] (by decide +kernel) (pc' := 137) (lo' := [(0, (2, 35)), (1, (0, i)), (2, (0, used)), (3, (0, k)), (4, (0, j))]) (st' := [(0, (m1 35 56) + 0), (2, 35)]) rfl ?_
                      refine jput hF 13 56 0 56 rfl (by decide) (by decide) rfl wd_1519 (by decide +kernel) rfl (Or.inl rfl) (by exact hS.k35) (fun h => by cases h) ?_
                      refine jvret hF hr (by decide +kernel) ?_
                      exact lMV ⟨(SR.s hR_m1 (Or.inr (by decide))), by have hkN : k = mem 35 57 := (by omega); have hsT : skipN rs i (mem 35 57 - i).toNat = mem 35 57 := (by rw [hsk, hkN]; exact skip_n); rw [seekT (u := 4) (by decide) hsT]; first | exact ⟨hfs.tr (FS.p _ (by decide)), fun x _ _ => congrFun hz70.1 x, htr.of ⟨hz70.2.1, hz70.2.2.1, hz70.2.2.2⟩, fin_new (by omega) (by rw [hz55.1]; exact hu) (by rw [show (4 : Int) = j by omega]; exact hz74) (by omega)⟩ | exact ⟨FS.p _ (by decide), fun x _ _ => rfl, htr, fin_keep (by omega) hst (by first | (rw [if_pos (by omega)]; omega) | (rw [if_neg (by omega)]; omega))⟩ | (exfalso; omega)⟩
                    · refine jblk hF [(.iconst 1, 1)] (by decide +kernel) (pc' := 132) (lo' := [(0, (2, 35)), (1, (0, i)), (2, (0, used)), (3, (0, k)), (4, (0, j))]) (st' := [(0, 1), (0, m1 35 56), (2, 35)]) rfl ?_
                      refine jgoto hF (off := 4) 136 (by decide +kernel) (by decide) ?_
                      refine jblk hF [(.iadd, 1)] (by decide +kernel) (pc' := 137) (lo' := [(0, (2, 35)), (1, (0, i)), (2, (0, used)), (3, (0, k)), (4, (0, j))]) (st' := [(0, (m1 35 56) + 1), (2, 35)]) rfl ?_
                      refine jput hF 13 56 0 56 rfl (by decide) (by decide) rfl wd_1519 (by decide +kernel) rfl (Or.inl rfl) (by exact hS.k35) (fun h => by cases h) ?_
                      refine jvret hF hr (by decide +kernel) ?_
                      exact lMV ⟨(SR.s hR_m1 (Or.inr (by decide))), by have hkN : k = mem 35 57 := (by omega); have hsT : skipN rs i (mem 35 57 - i).toNat = mem 35 57 := (by rw [hsk, hkN]; exact skip_n); rw [seekT (u := 4) (by decide) hsT]; first | exact ⟨hfs.tr (FS.p _ (by decide)), fun x _ _ => congrFun hz70.1 x, htr.of ⟨hz70.2.1, hz70.2.2.1, hz70.2.2.2⟩, fin_new (by omega) (by rw [hz55.1]; exact hu) (by rw [show (4 : Int) = j by omega]; exact hz74) (by omega)⟩ | exact ⟨FS.p _ (by decide), fun x _ _ => rfl, htr, fin_keep (by omega) hst (by first | (rw [if_pos (by omega)]; omega) | (rw [if_neg (by omega)]; omega))⟩ | (exfalso; omega)⟩
                  · refine jblk hF [(.aload_n 0, 1)] (by decide +kernel) (pc' := 71) (lo' := [(0, (2, 35)), (1, (0, i)), (2, (0, used)), (3, (0, k)), (4, (0, j))]) (st' := [(2, 35)]) rfl ?_
                    refine jget hF 13 52 2 52 rfl (by decide) (by decide) rfl wd_1515 (by decide +kernel) (by exact hS.k35) ?_
                    rw [SR.r52 hR_m1]
                    refine jblk hF [(.iload 4, 2), (.aload_n 0, 1)] (by decide +kernel) (pc' := 77) (lo' := [(0, (2, 35)), (1, (0, i)), (2, (0, used)), (3, (0, k)), (4, (0, j))]) (st' := [(2, 35), (0, j), (2, 74)]) rfl ?_
                    refine jget hF 13 49 2 49 rfl (by decide) (by decide) rfl wd_1512 (by decide +kernel) (by exact hS.k35) ?_
                    rw [SR.r49 hR_m1]
                    refine jblk hF [(.iload 4, 2)] (by decide +kernel) (pc' := 82) (lo' := [(0, (2, 35)), (1, (0, i)), (2, (0, used)), (3, (0, k)), (4, (0, j))]) (st' := [(0, j), (2, 71), (0, j), (2, 74)]) rfl ?_
                    refine jiald hF (by decide +kernel) (by exact hS.k71) (by omega) (by have := hS.l71; omega) ?_
                    refine jiast hF (by decide +kernel) (by decide) (by exact hS.k74) (by omega) (by have := hS.l74; omega) ?_
                    refine jblk hF [(.aload_n 0, 1)] (by decide +kernel) (pc' := 85) (lo' := [(0, (2, 35)), (1, (0, i)), (2, (0, used)), (3, (0, k)), (4, (0, j))]) (st' := [(2, 35)]) rfl ?_
                    refine jget hF 13 53 2 53 rfl (by decide) (by decide) rfl wd_1516 (by decide +kernel) (by exact hS.k35) ?_
                    rw [SR.r53 (SR.s hR_m1 (Or.inl (by decide)))]
                    refine jblk hF [(.iload 4, 2), (.aload_n 0, 1)] (by decide +kernel) (pc' := 91) (lo' := [(0, (2, 35)), (1, (0, i)), (2, (0, used)), (3, (0, k)), (4, (0, j))]) (st' := [(2, 35), (0, j), (2, 75)]) rfl ?_
                    refine jget hF 13 50 2 50 rfl (by decide) (by decide) rfl wd_1513 (by decide +kernel) (by exact hS.k35) ?_
                    rw [SR.r50 (SR.s hR_m1 (Or.inl (by decide)))]
                    refine jblk hF [(.iload 4, 2)] (by decide +kernel) (pc' := 96) (lo' := [(0, (2, 35)), (1, (0, i)), (2, (0, used)), (3, (0, k)), (4, (0, j))]) (st' := [(0, j), (2, 72), (0, j), (2, 75)]) rfl ?_
                    refine jiald hF (by decide +kernel) (by exact hS.k72) (by omega) (by have := hS.l72; omega) ?_
                    rw [show (set2 m1 74 j (m1 71 j)) 72 j = m1 72 j from (s2_a (by decide))]
                    refine jiast hF (by decide +kernel) (by decide) (by exact hS.k75) (by omega) (by have := hS.l75; omega) ?_
                    refine jblk hF [(.aload_n 0, 1)] (by decide +kernel) (pc' := 99) (lo' := [(0, (2, 35)), (1, (0, i)), (2, (0, used)), (3, (0, k)), (4, (0, j))]) (st' := [(2, 35)]) rfl ?_
                    refine jget hF 13 54 2 54 rfl (by decide) (by decide) rfl wd_1517 (by decide +kernel) (by exact hS.k35) ?_
                    rw [SR.r54 (SR.s (SR.s hR_m1 (Or.inl (by decide))) (Or.inl (by decide)))]
                    refine jblk hF [(.iload 4, 2), (.aload_n 0, 1)] (by decide +kernel) (pc' := 105) (lo' := [(0, (2, 35)), (1, (0, i)), (2, (0, used)), (3, (0, k)), (4, (0, j))]) (st' := [(2, 35), (0, j), (2, 76)]) rfl ?_
                    refine jget hF 13 51 2 51 rfl (by decide) (by decide) rfl wd_1514 (by decide +kernel) (by exact hS.k35) ?_
                    rw [SR.r51 (SR.s (SR.s hR_m1 (Or.inl (by decide))) (Or.inl (by decide)))]
                    refine jblk hF [(.iload 4, 2)] (by decide +kernel) (pc' := 110) (lo' := [(0, (2, 35)), (1, (0, i)), (2, (0, used)), (3, (0, k)), (4, (0, j))]) (st' := [(0, j), (2, 73), (0, j), (2, 76)]) rfl ?_
                    refine jlald hF (by decide +kernel) (by exact hS.k73) (by omega) (by have := hS.l73; omega) ?_
                    rw [show (set2 (set2 m1 74 j (m1 71 j)) 75 j (m1 72 j)) 73 j = m1 73 j from ((s2_a (by decide)).trans (s2_a (by decide)))]
                    refine jlast hF (by decide +kernel) (by decide) (by exact hS.k76) (by omega) (by have := hS.l76; omega) ?_
                    refine jblk hF [(.iinc 4 1, 3)] (by decide +kernel) (pc' := 115) (lo' := [(4, (0, j + 1)), (0, (2, 35)), (1, (0, i)), (2, (0, used)), (3, (0, k))]) (st' := []) rfl ?_
                    refine jgoto hF (off := (-51)) 64 (by decide +kernel) (by decide) ?_
                    refine jsub [1, 2, 3, 4, 0] rfl ?_
                    refine ih_15 (j + 1) (set2 (set2 (set2 m1 74 j (m1 71 j)) 75 j (m1 72 j)) 76 j (m1 73 j)) ?_ ?_ ?_ ?_ ?_ ?_ ?_
                    · omega
                    · exact ((hR_m1.s (Or.inl (by decide))).s (Or.inl (by decide))).s (Or.inl (by decide))
                    · exact ((hfs.tr (FS.s _ _ (by decide))).tr (FS.s _ _ (by decide))).tr (FS.s _ _ (by decide))
                    · exact ⟨hz70.1, hz70.2.1, hz70.2.2.1, hz70.2.2.2⟩
                    · exact hz55
                    · have h9 := htr j (by omega) (by omega); exact cp3 (by omega) hz74 ⟨by rw [hz70.2.1]; exact h9.1, by rw [hz70.2.2.1]; exact h9.2.1, by rw [hz70.2.2.2]; exact h9.2.2⟩
                    · omega
              refine jsub [1, 2, 3, 4, 0] rfl ?_
              refine L_16 _ 0 (set2 (set2 mem 35 55 used) 35 56 0) ?_ ?_ ?_ ?_ ?_ ?_ (Nat.lt_succ_self _)
              · omega
              · exact (hR.s (Or.inr (by decide))).s (Or.inr (by decide))
              · exact (FS.p _ (by decide)).tr (FS.p _ (by decide))
              · exact ⟨rfl, rfl, rfl, rfl⟩
              · exact ⟨by rw [s2_k (by decide), s2_s], by rw [s2_s]⟩
              · exact ⟨cpN_0 hst.2.2.1, cpN_0 hst.2.2.2.1, cpN_0 hst.2.2.2.2⟩
      · refine jblk hF [(.aload_n 0, 1)] (by decide +kernel) (pc' := 11) (lo' := [(0, (2, 35)), (1, (0, i)), (2, (0, used)), (3, (0, k))]) (st' := [(2, 35)]) rfl ?_
        refine jget hF 13 48 2 48 rfl (by decide) (by decide) rfl wd_1511 (by decide +kernel) (by exact hS.k35) ?_
        rw [SR.r48 hR]
        refine jblk hF [(.iload_n 3, 1)] (by decide +kernel) (pc' := 15) (lo' := [(0, (2, 35)), (1, (0, i)), (2, (0, used)), (3, (0, k))]) (st' := [(0, k), (2, 70)]) rfl ?_
        refine jlald hF (by decide +kernel) (by exact hS.k70) (by omega) (by have := hS.l70; omega) ?_
        refine jlconst hF (n := 0) 0 rfl (by decide +kernel) ?_
        refine jlcmpW_ne hF (off := 9) 27 (by decide +kernel) (by decide +kernel) (by decide) (fun h_20 => ?_) (fun h_20 => ?_)
        · refine jblk hF [(.iload_n 3, 1), (.aload_n 0, 1)] (by decide +kernel) (pc' := 29) (lo' := [(0, (2, 35)), (1, (0, i)), (2, (0, used)), (3, (0, k))]) (st' := [(2, 35), (0, k)]) rfl ?_
          refine jget hF 13 57 0 57 rfl (by decide) (by decide) rfl wd_1520 (by decide +kernel) (by exact hS.k35) ?_
          refine jicmp_ne hF (off := 109) 141 (by decide +kernel) (by decide) (by omega) (by omega) (fun h_21 => ?_) (fun h_21 => ?_)
          · refine jblk hF [(.iload_n 2, 1), (.iconst 4, 1)] (by decide +kernel) (pc' := 143) (lo' := [(0, (2, 35)), (1, (0, i)), (2, (0, used)), (3, (0, k))]) (st' := [(0, 4), (0, used)]) rfl ?_
            refine jicmp_ne hF (off := 4) 147 (by decide +kernel) (by decide) (by omega) (by decide) (fun h_22 => ?_) (fun h_22 => ?_)
            · exact absurd hu (by omega)
            · refine jvret hF hr (by decide +kernel) ?_
              exact lMV ⟨hR, by exact ⟨FS.rf, fun x _ _ => rfl, htr, by rw [seekZ (by rw [hsk, skip_e (by omega) (by rw [← hrk (by omega)]; first | assumption | omega)]; omega)]; exact hst⟩⟩
          · refine jblk hF [(.aload_n 0, 1)] (by decide +kernel) (pc' := 36) (lo' := [(0, (2, 35)), (1, (0, i)), (2, (0, used)), (3, (0, k))]) (st' := [(2, 35)]) rfl ?_
            refine jget hF 13 55 0 55 rfl (by decide) (by decide) rfl wd_1518 (by decide +kernel) (by exact hS.k35) ?_
            refine jblk hF [(.iconst (-1), 1)] (by decide +kernel) (pc' := 40) (lo' := [(0, (2, 35)), (1, (0, i)), (2, (0, used)), (3, (0, k))]) (st' := [(0, (-1)), (0, mem 35 55)]) rfl ?_
            refine jicmp_eq hF (off := 11) 51 (by decide +kernel) (by decide) (by omega) (by decide) (fun h_23 => ?_) (fun h_23 => ?_)
            · have hkN : k = mem 35 57 := by omega
              refine jblk hF [(.aload_n 0, 1), (.iload_n 2, 1)] (by decide +kernel) (pc' := 53) (lo' := [(0, (2, 35)), (1, (0, i)), (2, (0, used)), (3, (0, k))]) (st' := [(0, used), (2, 35)]) rfl ?_
              refine jput hF 13 55 0 55 rfl (by decide) (by decide) rfl wd_1518 (by decide +kernel) rfl (Or.inl rfl) (by exact hS.k35) (fun h => by cases h) ?_
              refine jblk hF [(.aload_n 0, 1), (.iconst 0, 1)] (by decide +kernel) (pc' := 58) (lo' := [(0, (2, 35)), (1, (0, i)), (2, (0, used)), (3, (0, k))]) (st' := [(0, 0), (2, 35)]) rfl ?_
              refine jput hF 13 56 0 56 rfl (by decide) (by decide) rfl wd_1519 (by decide +kernel) rfl (Or.inl rfl) (by exact hS.k35) (fun h => by cases h) ?_
              refine jblk hF [(.iconst 0, 1), (.istore 4, 2)] (by decide +kernel) (pc' := 64) (lo' := [(4, (0, 0)), (0, (2, 35)), (1, (0, i)), (2, (0, used)), (3, (0, k))]) (st' := []) rfl ?_
              have L_25 : ∀ (fu_26 : Nat) (j : Int) (m1 : Int → Int → Int), (0 ≤ j ∧ j ≤ 4) → (SR m1) → (FS mem m1) → (m1 70 = mem 70 ∧ m1 71 = mem 71 ∧ m1 72 = mem 72 ∧ m1 73 = mem 73) → (m1 35 55 = used ∧ m1 35 56 = 0) → (m1 74 = cpN j tl S.2.2.1 ∧ m1 75 = cpN j tc S.2.2.2.1 ∧ m1 76 = cpN j ta S.2.2.2.2) →  (4 - j).toNat < fu_26 → J z g 8 0 0 (QM z g 0 0 (pMV (fun mem' => SR mem' ∧ (FS mem mem' ∧ (∀ x : Int, 0 ≤ x → x < mem 35 57 → mem' 70 x = mem 70 x) ∧ TRY mem' 4 tl tc ta ∧ SKST mem' (seekF (mem 35 57) (mem 35 58) (mem 35 59) 0 rs i tl tc ta S))) kd ln sz)) 64 [(0, (2, 35)), (1, (0, i)), (2, (0, used)), (3, (0, k)), (4, (0, j))] [] kd ln m1 sz := by
                intro fu_26
                induction fu_26 with
                | zero => intro j m1 _ _ _ _ _ _ hm; omega
                | succ fu_26 ih_24 =>
                  intro j m1 hj hR_m1 hfs hz70 hz55 hz74 hm1
                  refine jblk hF [(.iload 4, 2), (.iload_n 2, 1)] (by decide +kernel) (pc' := 67) (lo' := [(0, (2, 35)), (1, (0, i)), (2, (0, used)), (3, (0, k)), (4, (0, j))]) (st' := [(0, used), (0, j)]) rfl ?_
                  refine jicmp_ge hF (off := 51) 118 (by decide +kernel) (by decide) (by omega) (by omega) (fun h_27 => ?_) (fun h_27 => ?_)
                  · refine jblk hF [(.aload_n 0, 1), (.dup, 1)] (by decide +kernel) (pc' := 120) (lo' := [(0, (2, 35)), (1, (0, i)), (2, (0, used)), (3, (0, k)), (4, (0, j))]) (st' := [(2, 35), (2, 35)]) rfl ?_
                    refine jget hF 13 56 0 56 rfl (by decide) (by decide) rfl wd_1519 (by decide +kernel) (by exact hS.k35) ?_
                    refine jblk hF [(.iload_n 2, 1), (.aload_n 0, 1)] (by decide +kernel) (pc' := 125) (lo' := [(0, (2, 35)), (1, (0, i)), (2, (0, used)), (3, (0, k)), (4, (0, j))]) (st' := [(2, 35), (0, used), (0, m1 35 56), (2, 35)]) rfl ?_
                    refine jget hF 13 55 0 55 rfl (by decide) (by decide) rfl wd_1518 (by decide +kernel) (by exact hS.k35) ?_
                    refine jicmp_ne hF (off := 7) 135 (by decide +kernel) (by decide) (by omega) (by omega) (fun h_28 => ?_) (fun h_28 => ?_)
                    · refine jblk hF [(.iconst 0, 1), (.iadd, 1)] (by decide +kernel) (pc' := 137) (lo' := [(0, (2, 35)), (1, (0, i)), (2, (0, used)), (3, (0, k)), (4, (0, j))]) (st' := [(0, (m1 35 56) + 0), (2, 35)]) rfl ?_
                      refine jput hF 13 56 0 56 rfl (by decide) (by decide) rfl wd_1519 (by decide +kernel) rfl (Or.inl rfl) (by exact hS.k35) (fun h => by cases h) ?_
                      refine jvret hF hr (by decide +kernel) ?_
                      exact lMV ⟨(SR.s hR_m1 (Or.inr (by decide))), by have hkN : k = mem 35 57 := (by omega); have hsT : skipN rs i (mem 35 57 - i).toNat = mem 35 57 := (by rw [hsk, hkN]; exact skip_n); rw [seekT (u := 4) (by decide) hsT]; first | exact ⟨hfs.tr (FS.p _ (by decide)), fun x _ _ => congrFun hz70.1 x, htr.of ⟨hz70.2.1, hz70.2.2.1, hz70.2.2.2⟩, fin_new (by omega) (by rw [hz55.1]; exact hu) (by rw [show (4 : Int) = j by omega]; exact hz74) (by omega)⟩ | exact ⟨FS.p _ (by decide), fun x _ _ => rfl, htr, fin_keep (by omega) hst (by first | (rw [if_pos (by omega)]; omega) | (rw [if_neg (by omega)]; omega))⟩ | (exfalso; omega)⟩
                    · refine jblk hF [(.iconst 1, 1)] (by decide +kernel) (pc' := 132) (lo' := [(0, (2, 35)), (1, (0, i)), (2, (0, used)), (3, (0, k)), (4, (0, j))]) (st' := [(0, 1), (0, m1 35 56), (2, 35)]) rfl ?_
                      refine jgoto hF (off := 4) 136 (by decide +kernel) (by decide) ?_
                      refine jblk hF [(.iadd, 1)] (by decide +kernel) (pc' := 137) (lo' := [(0, (2, 35)), (1, (0, i)), (2, (0, used)), (3, (0, k)), (4, (0, j))]) (st' := [(0, (m1 35 56) + 1), (2, 35)]) rfl ?_
                      refine jput hF 13 56 0 56 rfl (by decide) (by decide) rfl wd_1519 (by decide +kernel) rfl (Or.inl rfl) (by exact hS.k35) (fun h => by cases h) ?_
                      refine jvret hF hr (by decide +kernel) ?_
                      exact lMV ⟨(SR.s hR_m1 (Or.inr (by decide))), by have hkN : k = mem 35 57 := (by omega); have hsT : skipN rs i (mem 35 57 - i).toNat = mem 35 57 := (by rw [hsk, hkN]; exact skip_n); rw [seekT (u := 4) (by decide) hsT]; first | exact ⟨hfs.tr (FS.p _ (by decide)), fun x _ _ => congrFun hz70.1 x, htr.of ⟨hz70.2.1, hz70.2.2.1, hz70.2.2.2⟩, fin_new (by omega) (by rw [hz55.1]; exact hu) (by rw [show (4 : Int) = j by omega]; exact hz74) (by omega)⟩ | exact ⟨FS.p _ (by decide), fun x _ _ => rfl, htr, fin_keep (by omega) hst (by first | (rw [if_pos (by omega)]; omega) | (rw [if_neg (by omega)]; omega))⟩ | (exfalso; omega)⟩
                  · refine jblk hF [(.aload_n 0, 1)] (by decide +kernel) (pc' := 71) (lo' := [(0, (2, 35)), (1, (0, i)), (2, (0, used)), (3, (0, k)), (4, (0, j))]) (st' := [(2, 35)]) rfl ?_
                    refine jget hF 13 52 2 52 rfl (by decide) (by decide) rfl wd_1515 (by decide +kernel) (by exact hS.k35) ?_
                    rw [SR.r52 hR_m1]
                    refine jblk hF [(.iload 4, 2), (.aload_n 0, 1)] (by decide +kernel) (pc' := 77) (lo' := [(0, (2, 35)), (1, (0, i)), (2, (0, used)), (3, (0, k)), (4, (0, j))]) (st' := [(2, 35), (0, j), (2, 74)]) rfl ?_
                    refine jget hF 13 49 2 49 rfl (by decide) (by decide) rfl wd_1512 (by decide +kernel) (by exact hS.k35) ?_
                    rw [SR.r49 hR_m1]
                    refine jblk hF [(.iload 4, 2)] (by decide +kernel) (pc' := 82) (lo' := [(0, (2, 35)), (1, (0, i)), (2, (0, used)), (3, (0, k)), (4, (0, j))]) (st' := [(0, j), (2, 71), (0, j), (2, 74)]) rfl ?_
                    refine jiald hF (by decide +kernel) (by exact hS.k71) (by omega) (by have := hS.l71; omega) ?_
                    refine jiast hF (by decide +kernel) (by decide) (by exact hS.k74) (by omega) (by have := hS.l74; omega) ?_
                    refine jblk hF [(.aload_n 0, 1)] (by decide +kernel) (pc' := 85) (lo' := [(0, (2, 35)), (1, (0, i)), (2, (0, used)), (3, (0, k)), (4, (0, j))]) (st' := [(2, 35)]) rfl ?_
                    refine jget hF 13 53 2 53 rfl (by decide) (by decide) rfl wd_1516 (by decide +kernel) (by exact hS.k35) ?_
                    rw [SR.r53 (SR.s hR_m1 (Or.inl (by decide)))]
                    refine jblk hF [(.iload 4, 2), (.aload_n 0, 1)] (by decide +kernel) (pc' := 91) (lo' := [(0, (2, 35)), (1, (0, i)), (2, (0, used)), (3, (0, k)), (4, (0, j))]) (st' := [(2, 35), (0, j), (2, 75)]) rfl ?_
                    refine jget hF 13 50 2 50 rfl (by decide) (by decide) rfl wd_1513 (by decide +kernel) (by exact hS.k35) ?_
                    rw [SR.r50 (SR.s hR_m1 (Or.inl (by decide)))]
                    refine jblk hF [(.iload 4, 2)] (by decide +kernel) (pc' := 96) (lo' := [(0, (2, 35)), (1, (0, i)), (2, (0, used)), (3, (0, k)), (4, (0, j))]) (st' := [(0, j), (2, 72), (0, j), (2, 75)]) rfl ?_
                    refine jiald hF (by decide +kernel) (by exact hS.k72) (by omega) (by have := hS.l72; omega) ?_
                    rw [show (set2 m1 74 j (m1 71 j)) 72 j = m1 72 j from (s2_a (by decide))]
                    refine jiast hF (by decide +kernel) (by decide) (by exact hS.k75) (by omega) (by have := hS.l75; omega) ?_
                    refine jblk hF [(.aload_n 0, 1)] (by decide +kernel) (pc' := 99) (lo' := [(0, (2, 35)), (1, (0, i)), (2, (0, used)), (3, (0, k)), (4, (0, j))]) (st' := [(2, 35)]) rfl ?_
                    refine jget hF 13 54 2 54 rfl (by decide) (by decide) rfl wd_1517 (by decide +kernel) (by exact hS.k35) ?_
                    rw [SR.r54 (SR.s (SR.s hR_m1 (Or.inl (by decide))) (Or.inl (by decide)))]
                    refine jblk hF [(.iload 4, 2), (.aload_n 0, 1)] (by decide +kernel) (pc' := 105) (lo' := [(0, (2, 35)), (1, (0, i)), (2, (0, used)), (3, (0, k)), (4, (0, j))]) (st' := [(2, 35), (0, j), (2, 76)]) rfl ?_
                    refine jget hF 13 51 2 51 rfl (by decide) (by decide) rfl wd_1514 (by decide +kernel) (by exact hS.k35) ?_
                    rw [SR.r51 (SR.s (SR.s hR_m1 (Or.inl (by decide))) (Or.inl (by decide)))]
                    refine jblk hF [(.iload 4, 2)] (by decide +kernel) (pc' := 110) (lo' := [(0, (2, 35)), (1, (0, i)), (2, (0, used)), (3, (0, k)), (4, (0, j))]) (st' := [(0, j), (2, 73), (0, j), (2, 76)]) rfl ?_
                    refine jlald hF (by decide +kernel) (by exact hS.k73) (by omega) (by have := hS.l73; omega) ?_
                    rw [show (set2 (set2 m1 74 j (m1 71 j)) 75 j (m1 72 j)) 73 j = m1 73 j from ((s2_a (by decide)).trans (s2_a (by decide)))]
                    refine jlast hF (by decide +kernel) (by decide) (by exact hS.k76) (by omega) (by have := hS.l76; omega) ?_
                    refine jblk hF [(.iinc 4 1, 3)] (by decide +kernel) (pc' := 115) (lo' := [(4, (0, j + 1)), (0, (2, 35)), (1, (0, i)), (2, (0, used)), (3, (0, k))]) (st' := []) rfl ?_
                    refine jgoto hF (off := (-51)) 64 (by decide +kernel) (by decide) ?_
                    refine jsub [1, 2, 3, 4, 0] rfl ?_
                    refine ih_24 (j + 1) (set2 (set2 (set2 m1 74 j (m1 71 j)) 75 j (m1 72 j)) 76 j (m1 73 j)) ?_ ?_ ?_ ?_ ?_ ?_ ?_
                    · omega
                    · exact ((hR_m1.s (Or.inl (by decide))).s (Or.inl (by decide))).s (Or.inl (by decide))
                    · exact ((hfs.tr (FS.s _ _ (by decide))).tr (FS.s _ _ (by decide))).tr (FS.s _ _ (by decide))
                    · exact ⟨hz70.1, hz70.2.1, hz70.2.2.1, hz70.2.2.2⟩
                    · exact hz55
                    · have h9 := htr j (by omega) (by omega); exact cp3 (by omega) hz74 ⟨by rw [hz70.2.1]; exact h9.1, by rw [hz70.2.2.1]; exact h9.2.1, by rw [hz70.2.2.2]; exact h9.2.2⟩
                    · omega
              refine jsub [1, 2, 3, 4, 0] rfl ?_
              refine L_25 _ 0 (set2 (set2 mem 35 55 used) 35 56 0) ?_ ?_ ?_ ?_ ?_ ?_ (Nat.lt_succ_self _)
              · omega
              · exact (hR.s (Or.inr (by decide))).s (Or.inr (by decide))
              · exact (FS.p _ (by decide)).tr (FS.p _ (by decide))
              · exact ⟨rfl, rfl, rfl, rfl⟩
              · exact ⟨by rw [s2_k (by decide), s2_s], by rw [s2_s]⟩
              · exact ⟨cpN_0 hst.2.2.1, cpN_0 hst.2.2.2.1, cpN_0 hst.2.2.2.2⟩
            · refine jblk hF [(.iload_n 2, 1), (.aload_n 0, 1)] (by decide +kernel) (pc' := 45) (lo' := [(0, (2, 35)), (1, (0, i)), (2, (0, used)), (3, (0, k))]) (st' := [(2, 35), (0, used)]) rfl ?_
              refine jget hF 13 55 0 55 rfl (by decide) (by decide) rfl wd_1518 (by decide +kernel) (by exact hS.k35) ?_
              refine jicmp_ge hF (off := 70) 118 (by decide +kernel) (by decide) (by omega) (by omega) (fun h_29 => ?_) (fun h_29 => ?_)
              · refine jblk hF [(.aload_n 0, 1), (.dup, 1)] (by decide +kernel) (pc' := 120) (lo' := [(0, (2, 35)), (1, (0, i)), (2, (0, used)), (3, (0, k))]) (st' := [(2, 35), (2, 35)]) rfl ?_
                refine jget hF 13 56 0 56 rfl (by decide) (by decide) rfl wd_1519 (by decide +kernel) (by exact hS.k35) ?_
                refine jblk hF [(.iload_n 2, 1), (.aload_n 0, 1)] (by decide +kernel) (pc' := 125) (lo' := [(0, (2, 35)), (1, (0, i)), (2, (0, used)), (3, (0, k))]) (st' := [(2, 35), (0, used), (0, mem 35 56), (2, 35)]) rfl ?_
                refine jget hF 13 55 0 55 rfl (by decide) (by decide) rfl wd_1518 (by decide +kernel) (by exact hS.k35) ?_
                refine jicmp_ne hF (off := 7) 135 (by decide +kernel) (by decide) (by omega) (by omega) (fun h_30 => ?_) (fun h_30 => ?_)
                · refine jblk hF [(.iconst 0, 1), (.iadd, 1)] (by decide +kernel) (pc' := 137) (lo' := [(0, (2, 35)), (1, (0, i)), (2, (0, used)), (3, (0, k))]) (st' := [(0, (mem 35 56) + 0), (2, 35)]) rfl ?_
                  refine jput hF 13 56 0 56 rfl (by decide) (by decide) rfl wd_1519 (by decide +kernel) rfl (Or.inl rfl) (by exact hS.k35) (fun h => by cases h) ?_
                  refine jvret hF hr (by decide +kernel) ?_
                  exact lMV ⟨(SR.s hR (Or.inr (by decide))), by have hkN : k = mem 35 57 := (by omega); have hsT : skipN rs i (mem 35 57 - i).toNat = mem 35 57 := (by rw [hsk, hkN]; exact skip_n); rw [seekT (u := 4) (by decide) hsT]; first | exact ⟨hfs.tr (FS.p _ (by decide)), fun x _ _ => congrFun hz70.1 x, htr.of ⟨hz70.2.1, hz70.2.2.1, hz70.2.2.2⟩, fin_new (by omega) (by rw [hz55.1]; exact hu) (by rw [show (4 : Int) = j by omega]; exact hz74) (by omega)⟩ | exact ⟨FS.p _ (by decide), fun x _ _ => rfl, htr, fin_keep (by omega) hst (by first | (rw [if_pos (by omega)]; omega) | (rw [if_neg (by omega)]; omega))⟩ | (exfalso; omega)⟩
                · refine jblk hF [(.iconst 1, 1)] (by decide +kernel) (pc' := 132) (lo' := [(0, (2, 35)), (1, (0, i)), (2, (0, used)), (3, (0, k))]) (st' := [(0, 1), (0, mem 35 56), (2, 35)]) rfl ?_
                  refine jgoto hF (off := 4) 136 (by decide +kernel) (by decide) ?_
                  refine jblk hF [(.iadd, 1)] (by decide +kernel) (pc' := 137) (lo' := [(0, (2, 35)), (1, (0, i)), (2, (0, used)), (3, (0, k))]) (st' := [(0, (mem 35 56) + 1), (2, 35)]) rfl ?_
                  refine jput hF 13 56 0 56 rfl (by decide) (by decide) rfl wd_1519 (by decide +kernel) rfl (Or.inl rfl) (by exact hS.k35) (fun h => by cases h) ?_
                  refine jvret hF hr (by decide +kernel) ?_
                  exact lMV ⟨(SR.s hR (Or.inr (by decide))), by have hkN : k = mem 35 57 := (by omega); have hsT : skipN rs i (mem 35 57 - i).toNat = mem 35 57 := (by rw [hsk, hkN]; exact skip_n); rw [seekT (u := 4) (by decide) hsT]; first | exact ⟨hfs.tr (FS.p _ (by decide)), fun x _ _ => congrFun hz70.1 x, htr.of ⟨hz70.2.1, hz70.2.2.1, hz70.2.2.2⟩, fin_new (by omega) (by rw [hz55.1]; exact hu) (by rw [show (4 : Int) = j by omega]; exact hz74) (by omega)⟩ | exact ⟨FS.p _ (by decide), fun x _ _ => rfl, htr, fin_keep (by omega) hst (by first | (rw [if_pos (by omega)]; omega) | (rw [if_neg (by omega)]; omega))⟩ | (exfalso; omega)⟩
              · have hkN : k = mem 35 57 := by omega
                refine jblk hF [(.aload_n 0, 1), (.iload_n 2, 1)] (by decide +kernel) (pc' := 53) (lo' := [(0, (2, 35)), (1, (0, i)), (2, (0, used)), (3, (0, k))]) (st' := [(0, used), (2, 35)]) rfl ?_
                refine jput hF 13 55 0 55 rfl (by decide) (by decide) rfl wd_1518 (by decide +kernel) rfl (Or.inl rfl) (by exact hS.k35) (fun h => by cases h) ?_
                refine jblk hF [(.aload_n 0, 1), (.iconst 0, 1)] (by decide +kernel) (pc' := 58) (lo' := [(0, (2, 35)), (1, (0, i)), (2, (0, used)), (3, (0, k))]) (st' := [(0, 0), (2, 35)]) rfl ?_
                refine jput hF 13 56 0 56 rfl (by decide) (by decide) rfl wd_1519 (by decide +kernel) rfl (Or.inl rfl) (by exact hS.k35) (fun h => by cases h) ?_
                refine jblk hF [(.iconst 0, 1), (.istore 4, 2)] (by decide +kernel) (pc' := 64) (lo' := [(4, (0, 0)), (0, (2, 35)), (1, (0, i)), (2, (0, used)), (3, (0, k))]) (st' := []) rfl ?_
                have L_32 : ∀ (fu_33 : Nat) (j : Int) (m1 : Int → Int → Int), (0 ≤ j ∧ j ≤ 4) → (SR m1) → (FS mem m1) → (m1 70 = mem 70 ∧ m1 71 = mem 71 ∧ m1 72 = mem 72 ∧ m1 73 = mem 73) → (m1 35 55 = used ∧ m1 35 56 = 0) → (m1 74 = cpN j tl S.2.2.1 ∧ m1 75 = cpN j tc S.2.2.2.1 ∧ m1 76 = cpN j ta S.2.2.2.2) →  (4 - j).toNat < fu_33 → J z g 8 0 0 (QM z g 0 0 (pMV (fun mem' => SR mem' ∧ (FS mem mem' ∧ (∀ x : Int, 0 ≤ x → x < mem 35 57 → mem' 70 x = mem 70 x) ∧ TRY mem' 4 tl tc ta ∧ SKST mem' (seekF (mem 35 57) (mem 35 58) (mem 35 59) 0 rs i tl tc ta S))) kd ln sz)) 64 [(0, (2, 35)), (1, (0, i)), (2, (0, used)), (3, (0, k)), (4, (0, j))] [] kd ln m1 sz := by
                  intro fu_33
                  induction fu_33 with
                  | zero => intro j m1 _ _ _ _ _ _ hm; omega
                  | succ fu_33 ih_31 =>
                    intro j m1 hj hR_m1 hfs hz70 hz55 hz74 hm1
                    refine jblk hF [(.iload 4, 2), (.iload_n 2, 1)] (by decide +kernel) (pc' := 67) (lo' := [(0, (2, 35)), (1, (0, i)), (2, (0, used)), (3, (0, k)), (4, (0, j))]) (st' := [(0, used), (0, j)]) rfl ?_
                    refine jicmp_ge hF (off := 51) 118 (by decide +kernel) (by decide) (by omega) (by omega) (fun h_34 => ?_) (fun h_34 => ?_)
                    · refine jblk hF [(.aload_n 0, 1), (.dup, 1)] (by decide +kernel) (pc' := 120) (lo' := [(0, (2, 35)), (1, (0, i)), (2, (0, used)), (3, (0, k)), (4, (0, j))]) (st' := [(2, 35), (2, 35)]) rfl ?_
                      refine jget hF 13 56 0 56 rfl (by decide) (by decide) rfl wd_1519 (by decide +kernel) (by exact hS.k35) ?_
                      refine jblk hF [(.iload_n 2, 1), (.aload_n 0, 1)] (by decide +kernel) (pc' := 125) (lo' := [(0, (2, 35)), (1, (0, i)), (2, (0, used)), (3, (0, k)), (4, (0, j))]) (st' := [(2, 35), (0, used), (0, m1 35 56), (2, 35)]) rfl ?_
                      refine jget hF 13 55 0 55 rfl (by decide) (by decide) rfl wd_1518 (by decide +kernel) (by exact hS.k35) ?_
                      refine jicmp_ne hF (off := 7) 135 (by decide +kernel) (by decide) (by omega) (by omega) (fun h_35 => ?_) (fun h_35 => ?_)
                      · refine jblk hF [(.iconst 0, 1), (.iadd, 1)] (by decide +kernel) (pc' := 137) (lo' := [(0, (2, 35)), (1, (0, i)), (2, (0, used)), (3, (0, k)), (4, (0, j))]) (st' := [(0, (m1 35 56) + 0), (2, 35)]) rfl ?_
                        refine jput hF 13 56 0 56 rfl (by decide) (by decide) rfl wd_1519 (by decide +kernel) rfl (Or.inl rfl) (by exact hS.k35) (fun h => by cases h) ?_
                        refine jvret hF hr (by decide +kernel) ?_
                        exact lMV ⟨(SR.s hR_m1 (Or.inr (by decide))), by have hkN : k = mem 35 57 := (by omega); have hsT : skipN rs i (mem 35 57 - i).toNat = mem 35 57 := (by rw [hsk, hkN]; exact skip_n); rw [seekT (u := 4) (by decide) hsT]; first | exact ⟨hfs.tr (FS.p _ (by decide)), fun x _ _ => congrFun hz70.1 x, htr.of ⟨hz70.2.1, hz70.2.2.1, hz70.2.2.2⟩, fin_new (by omega) (by rw [hz55.1]; exact hu) (by rw [show (4 : Int) = j by omega]; exact hz74) (by omega)⟩ | exact ⟨FS.p _ (by decide), fun x _ _ => rfl, htr, fin_keep (by omega) hst (by first | (rw [if_pos (by omega)]; omega) | (rw [if_neg (by omega)]; omega))⟩ | (exfalso; omega)⟩
                      · refine jblk hF [(.iconst 1, 1)] (by decide +kernel) (pc' := 132) (lo' := [(0, (2, 35)), (1, (0, i)), (2, (0, used)), (3, (0, k)), (4, (0, j))]) (st' := [(0, 1), (0, m1 35 56), (2, 35)]) rfl ?_
                        refine jgoto hF (off := 4) 136 (by decide +kernel) (by decide) ?_
                        refine jblk hF [(.iadd, 1)] (by decide +kernel) (pc' := 137) (lo' := [(0, (2, 35)), (1, (0, i)), (2, (0, used)), (3, (0, k)), (4, (0, j))]) (st' := [(0, (m1 35 56) + 1), (2, 35)]) rfl ?_
                        refine jput hF 13 56 0 56 rfl (by decide) (by decide) rfl wd_1519 (by decide +kernel) rfl (Or.inl rfl) (by exact hS.k35) (fun h => by cases h) ?_
                        refine jvret hF hr (by decide +kernel) ?_
                        exact lMV ⟨(SR.s hR_m1 (Or.inr (by decide))), by have hkN : k = mem 35 57 := (by omega); have hsT : skipN rs i (mem 35 57 - i).toNat = mem 35 57 := (by rw [hsk, hkN]; exact skip_n); rw [seekT (u := 4) (by decide) hsT]; first | exact ⟨hfs.tr (FS.p _ (by decide)), fun x _ _ => congrFun hz70.1 x, htr.of ⟨hz70.2.1, hz70.2.2.1, hz70.2.2.2⟩, fin_new (by omega) (by rw [hz55.1]; exact hu) (by rw [show (4 : Int) = j by omega]; exact hz74) (by omega)⟩ | exact ⟨FS.p _ (by decide), fun x _ _ => rfl, htr, fin_keep (by omega) hst (by first | (rw [if_pos (by omega)]; omega) | (rw [if_neg (by omega)]; omega))⟩ | (exfalso; omega)⟩
                    · refine jblk hF [(.aload_n 0, 1)] (by decide +kernel) (pc' := 71) (lo' := [(0, (2, 35)), (1, (0, i)), (2, (0, used)), (3, (0, k)), (4, (0, j))]) (st' := [(2, 35)]) rfl ?_
                      refine jget hF 13 52 2 52 rfl (by decide) (by decide) rfl wd_1515 (by decide +kernel) (by exact hS.k35) ?_
                      rw [SR.r52 hR_m1]
                      refine jblk hF [(.iload 4, 2), (.aload_n 0, 1)] (by decide +kernel) (pc' := 77) (lo' := [(0, (2, 35)), (1, (0, i)), (2, (0, used)), (3, (0, k)), (4, (0, j))]) (st' := [(2, 35), (0, j), (2, 74)]) rfl ?_
                      refine jget hF 13 49 2 49 rfl (by decide) (by decide) rfl wd_1512 (by decide +kernel) (by exact hS.k35) ?_
                      rw [SR.r49 hR_m1]
                      refine jblk hF [(.iload 4, 2)] (by decide +kernel) (pc' := 82) (lo' := [(0, (2, 35)), (1, (0, i)), (2, (0, used)), (3, (0, k)), (4, (0, j))]) (st' := [(0, j), (2, 71), (0, j), (2, 74)]) rfl ?_
                      refine jiald hF (by decide +kernel) (by exact hS.k71) (by omega) (by have := hS.l71; omega) ?_
                      refine jiast hF (by decide +kernel) (by decide) (by exact hS.k74) (by omega) (by have := hS.l74; omega) ?_
                      refine jblk hF [(.aload_n 0, 1)] (by decide +kernel) (pc' := 85) (lo' := [(0, (2, 35)), (1, (0, i)), (2, (0, used)), (3, (0, k)), (4, (0, j))]) (st' := [(2, 35)]) rfl ?_
                      refine jget hF 13 53 2 53 rfl (by decide) (by decide) rfl wd_1516 (by decide +kernel) (by exact hS.k35) ?_
                      rw [SR.r53 (SR.s hR_m1 (Or.inl (by decide)))]
                      refine jblk hF [(.iload 4, 2), (.aload_n 0, 1)] (by decide +kernel) (pc' := 91) (lo' := [(0, (2, 35)), (1, (0, i)), (2, (0, used)), (3, (0, k)), (4, (0, j))]) (st' := [(2, 35), (0, j), (2, 75)]) rfl ?_
                      refine jget hF 13 50 2 50 rfl (by decide) (by decide) rfl wd_1513 (by decide +kernel) (by exact hS.k35) ?_
                      rw [SR.r50 (SR.s hR_m1 (Or.inl (by decide)))]
                      refine jblk hF [(.iload 4, 2)] (by decide +kernel) (pc' := 96) (lo' := [(0, (2, 35)), (1, (0, i)), (2, (0, used)), (3, (0, k)), (4, (0, j))]) (st' := [(0, j), (2, 72), (0, j), (2, 75)]) rfl ?_
                      refine jiald hF (by decide +kernel) (by exact hS.k72) (by omega) (by have := hS.l72; omega) ?_
                      rw [show (set2 m1 74 j (m1 71 j)) 72 j = m1 72 j from (s2_a (by decide))]
                      refine jiast hF (by decide +kernel) (by decide) (by exact hS.k75) (by omega) (by have := hS.l75; omega) ?_
                      refine jblk hF [(.aload_n 0, 1)] (by decide +kernel) (pc' := 99) (lo' := [(0, (2, 35)), (1, (0, i)), (2, (0, used)), (3, (0, k)), (4, (0, j))]) (st' := [(2, 35)]) rfl ?_
                      refine jget hF 13 54 2 54 rfl (by decide) (by decide) rfl wd_1517 (by decide +kernel) (by exact hS.k35) ?_
                      rw [SR.r54 (SR.s (SR.s hR_m1 (Or.inl (by decide))) (Or.inl (by decide)))]
                      refine jblk hF [(.iload 4, 2), (.aload_n 0, 1)] (by decide +kernel) (pc' := 105) (lo' := [(0, (2, 35)), (1, (0, i)), (2, (0, used)), (3, (0, k)), (4, (0, j))]) (st' := [(2, 35), (0, j), (2, 76)]) rfl ?_
                      refine jget hF 13 51 2 51 rfl (by decide) (by decide) rfl wd_1514 (by decide +kernel) (by exact hS.k35) ?_
                      rw [SR.r51 (SR.s (SR.s hR_m1 (Or.inl (by decide))) (Or.inl (by decide)))]
                      refine jblk hF [(.iload 4, 2)] (by decide +kernel) (pc' := 110) (lo' := [(0, (2, 35)), (1, (0, i)), (2, (0, used)), (3, (0, k)), (4, (0, j))]) (st' := [(0, j), (2, 73), (0, j), (2, 76)]) rfl ?_
                      refine jlald hF (by decide +kernel) (by exact hS.k73) (by omega) (by have := hS.l73; omega) ?_
                      rw [show (set2 (set2 m1 74 j (m1 71 j)) 75 j (m1 72 j)) 73 j = m1 73 j from ((s2_a (by decide)).trans (s2_a (by decide)))]
                      refine jlast hF (by decide +kernel) (by decide) (by exact hS.k76) (by omega) (by have := hS.l76; omega) ?_
                      refine jblk hF [(.iinc 4 1, 3)] (by decide +kernel) (pc' := 115) (lo' := [(4, (0, j + 1)), (0, (2, 35)), (1, (0, i)), (2, (0, used)), (3, (0, k))]) (st' := []) rfl ?_
                      refine jgoto hF (off := (-51)) 64 (by decide +kernel) (by decide) ?_
                      refine jsub [1, 2, 3, 4, 0] rfl ?_
                      refine ih_31 (j + 1) (set2 (set2 (set2 m1 74 j (m1 71 j)) 75 j (m1 72 j)) 76 j (m1 73 j)) ?_ ?_ ?_ ?_ ?_ ?_ ?_
                      · omega
                      · exact ((hR_m1.s (Or.inl (by decide))).s (Or.inl (by decide))).s (Or.inl (by decide))
                      · exact ((hfs.tr (FS.s _ _ (by decide))).tr (FS.s _ _ (by decide))).tr (FS.s _ _ (by decide))
                      · exact ⟨hz70.1, hz70.2.1, hz70.2.2.1, hz70.2.2.2⟩
                      · exact hz55
                      · have h9 := htr j (by omega) (by omega); exact cp3 (by omega) hz74 ⟨by rw [hz70.2.1]; exact h9.1, by rw [hz70.2.2.1]; exact h9.2.1, by rw [hz70.2.2.2]; exact h9.2.2⟩
                      · omega
                refine jsub [1, 2, 3, 4, 0] rfl ?_
                refine L_32 _ 0 (set2 (set2 mem 35 55 used) 35 56 0) ?_ ?_ ?_ ?_ ?_ ?_ (Nat.lt_succ_self _)
                · omega
                · exact (hR.s (Or.inr (by decide))).s (Or.inr (by decide))
                · exact (FS.p _ (by decide)).tr (FS.p _ (by decide))
                · exact ⟨rfl, rfl, rfl, rfl⟩
                · exact ⟨by rw [s2_k (by decide), s2_s], by rw [s2_s]⟩
                · exact ⟨cpN_0 hst.2.2.1, cpN_0 hst.2.2.2.1, cpN_0 hst.2.2.2.2⟩
        · refine jblk hF [(.iinc 3 1, 3)] (by decide +kernel) (pc' := 24) (lo' := [(3, (0, k + 1)), (0, (2, 35)), (1, (0, i)), (2, (0, used))]) (st' := []) rfl ?_
          refine jgoto hF (off := (-22)) 2 (by decide +kernel) (by decide) ?_
          refine jsub [1, 2, 3, 0] rfl ?_
          refine ih_1 (k + 1) ?_ ?_ ?_
          · omega
          · rw [hsk]; have hrk2 := hrk (by omega); exact skip_s (by omega) (by rw [← hrk2]; first | assumption | omega)
          · omega
  refine jsub [1, 2, 3, 0] rfl ?_
  refine L_2 _ i ?_ ?_ (Nat.lt_succ_self _)
  · omega
  · rfl
set_option maxHeartbeats 4000000 in
set_option maxRecDepth 100000 in
theorem c_seek3 {l : Launch} {g : GP} (hG : GH g) {kd : Int → Nat} {ln : Int → Int} {mem : Int → Int → Int} {sz : Nat} (hS : SK kd ln) (hR : SR mem) (i used : Int) (rs : Int → Int) (tl : Int → Int) (tc : Int → Int) (ta : Int → Int) (S : ST) (hu : used = 3) (hi : 0 ≤ i ∧ i ≤ mem 35 57) (hN : 0 ≤ mem 35 57 ∧ mem 35 57 ≤ 40) (ho : 0 ≤ mem 35 58 ∧ mem 35 58 ≤ 4) (hh : 0 ≤ mem 35 59 ∧ mem 35 59 ≤ 40) (hrs : ∀ x : Int, 0 ≤ x → x < mem 35 57 → mem 70 x = rs x) (htr : TRY mem 3 tl tc ta) (hst : SKST mem S) (hsb : SB S) : MT l g yX12_seek cX12_seek 8 none 2 0 0 [(2, 35), (0, i), (0, used)] kd ln mem sz (pMV (fun mem' => SR mem' ∧ (FS mem mem' ∧ (∀ x : Int, 0 ≤ x → x < mem 35 57 → mem' 70 x = mem 70 x) ∧ TRY mem' 3 tl tc ta ∧ SKST mem' (seekF (mem 35 57) (mem 35 58) (mem 35 59) 1 rs i tl tc ta S))) kd ln sz) := by
  refine MT_of hG (by decide +kernel) (Nat.le_of_ble_eq_true rfl) (fun z hF hr hn => ?_)
  have hb1 := hsb.1
  have hb2 := hsb.2
  have h55 := hst.1
  have h56 := hst.2.1
  refine jblk hF [(.iload_n 1, 1), (.istore_n 3, 1)] (by decide +kernel) (pc' := 2) (lo' := [(3, (0, i)), (0, (2, 35)), (1, (0, i)), (2, (0, used))]) (st' := []) rfl ?_
  have L_2 : ∀ (fu_3 : Nat) (k : Int), (i ≤ k ∧ k ≤ mem 35 57) → (skipN rs i (mem 35 57 - i).toNat = skipN rs k (mem 35 57 - k).toNat) →  (mem 35 57 - k).toNat < fu_3 → J z g 8 0 0 (QM z g 0 0 (pMV (fun mem' => SR mem' ∧ (FS mem mem' ∧ (∀ x : Int, 0 ≤ x → x < mem 35 57 → mem' 70 x = mem 70 x) ∧ TRY mem' 3 tl tc ta ∧ SKST mem' (seekF (mem 35 57) (mem 35 58) (mem 35 59) 1 rs i tl tc ta S))) kd ln sz)) 2 [(0, (2, 35)), (1, (0, i)), (2, (0, used)), (3, (0, k))] [] kd ln mem sz := by
    intro fu_3
    induction fu_3 with
    | zero => intro k _ _ hm; omega
    | succ fu_3 ih_1 =>
      intro k hk hsk hm
      have hrk : k < mem 35 57 → mem 70 k = rs k := fun h => hrs k (by omega) h
      refine jblk hF [(.iload_n 3, 1), (.aload_n 0, 1)] (by decide +kernel) (pc' := 4) (lo' := [(0, (2, 35)), (1, (0, i)), (2, (0, used)), (3, (0, k))]) (st' := [(2, 35), (0, k)]) rfl ?_
      refine jget hF 13 57 0 57 rfl (by decide) (by decide) rfl wd_1520 (by decide +kernel) (by exact hS.k35) ?_
      refine jicmp_ge hF (off := 20) 27 (by decide +kernel) (by decide) (by omega) (by omega) (fun h_4 => ?_) (fun h_4 => ?_)
      · refine jblk hF [(.iload_n 3, 1), (.aload_n 0, 1)] (by decide +kernel) (pc' := 29) (lo' := [(0, (2, 35)), (1, (0, i)), (2, (0, used)), (3, (0, k))]) (st' := [(2, 35), (0, k)]) rfl ?_
        refine jget hF 13 57 0 57 rfl (by decide) (by decide) rfl wd_1520 (by decide +kernel) (by exact hS.k35) ?_
        refine jicmp_ne hF (off := 109) 141 (by decide +kernel) (by decide) (by omega) (by omega) (fun h_5 => ?_) (fun h_5 => ?_)
        · refine jblk hF [(.iload_n 2, 1), (.iconst 4, 1)] (by decide +kernel) (pc' := 143) (lo' := [(0, (2, 35)), (1, (0, i)), (2, (0, used)), (3, (0, k))]) (st' := [(0, 4), (0, used)]) rfl ?_
          refine jicmp_ne hF (off := 4) 147 (by decide +kernel) (by decide) (by omega) (by decide) (fun h_6 => ?_) (fun h_6 => ?_)
          · have hrk2 := hrk (by omega)
            have hske : skipN rs i (mem 35 57 - i).toNat = k := by rw [hsk]; exact skip_e (by omega) (by rw [← hrk2]; first | assumption | omega)
            obtain ⟨FF, hFF⟩ : ∃ FF : Int → ST → ST, FF = (fun c => seekF (mem 35 57) (mem 35 58) (mem 35 59) 0 (markJ (mem 35 57) rs k (tmC (mem 35 58) c) (-(rs k)) (tmC (mem 35 58) c + 1)) (k + 1) (upI tl 3 (mem 35 59 + k)) (upI tc 3 (coC (mem 35 58) c)) (upI ta 3 (rs k))) := ⟨_, rfl⟩
            have hFFa := fun (c9 : Int) (S9 : ST) => congrFun (congrFun hFF c9) S9
            have hSBF := fun (rs : Int → Int) (i : Int) (tl tc ta : Int → Int) (S : ST) (h : SB S) => (seekF_bd (N := mem 35 57) (o := mem 35 58) (h := mem 35 59) 0 (by decide) rs i tl tc ta S h).1
            refine jblk hF [(.aload_n 0, 1)] (by decide +kernel) (pc' := 148) (lo' := [(0, (2, 35)), (1, (0, i)), (2, (0, used)), (3, (0, k))]) (st' := [(2, 35)]) rfl ?_
            refine jget hF 13 48 2 48 rfl (by decide) (by decide) rfl wd_1511 (by decide +kernel) (by exact hS.k35) ?_
            rw [SR.r48 hR]
            refine jblk hF [(.iload_n 3, 1)] (by decide +kernel) (pc' := 152) (lo' := [(0, (2, 35)), (1, (0, i)), (2, (0, used)), (3, (0, k))]) (st' := [(0, k), (2, 70)]) rfl ?_
            refine jlald hF (by decide +kernel) (by exact hS.k70) (by omega) (by have := hS.l70; omega) ?_
            refine jblk hF [(.lstore 4, 2), (.iconst 0, 1), (.istore 6, 2)] (by decide +kernel) (pc' := 158) (lo' := [(6, (0, 0)), (4, (1, mem 70 k)), (0, (2, 35)), (1, (0, i)), (2, (0, used)), (3, (0, k))]) (st' := []) rfl ?_
            have L_8 : ∀ (fu_9 : Nat) (c : Int) (m2 : Int → Int → Int), (0 ≤ c ∧ c ≤ mem 35 58 + 1) → (SR m2) → (FS mem m2) → (∀ x : Int, 0 ≤ x → x < mem 35 57 → m2 70 x = rs x) → (TRY m2 3 tl tc ta) → (SKST m2 (foldC FF c.toNat S)) → (SB (foldC FF c.toNat S)) →  (mem 35 58 + 1 - c).toNat < fu_9 → J z g 8 0 0 (QM z g 0 0 (pMV (fun mem' => SR mem' ∧ (FS mem mem' ∧ (∀ x : Int, 0 ≤ x → x < mem 35 57 → mem' 70 x = mem 70 x) ∧ TRY mem' 3 tl tc ta ∧ SKST mem' (seekF (mem 35 57) (mem 35 58) (mem 35 59) 1 rs i tl tc ta S))) kd ln sz)) 158 [(0, (2, 35)), (1, (0, i)), (2, (0, used)), (3, (0, k)), (4, (1, mem 70 k)), (6, (0, c))] [] kd ln m2 sz := by
              intro fu_9
              induction fu_9 with
              | zero => intro c m2 _ _ _ _ _ _ _ hm; omega
              | succ fu_9 ih_7 =>
                intro c m2 hc hR_m2 hfs2 hz70b htr2 hst2 hsb2 hm2
                have f57 : m2 35 57 = mem 35 57 := hfs2 35 57 (by decide) (by decide) (by decide) (by decide) (by decide) (by decide) (by decide) (by decide)
                have f58 : m2 35 58 = mem 35 58 := hfs2 35 58 (by decide) (by decide) (by decide) (by decide) (by decide) (by decide) (by decide) (by decide)
                have f59 : m2 35 59 = mem 35 59 := hfs2 35 59 (by decide) (by decide) (by decide) (by decide) (by decide) (by decide) (by decide) (by decide)
                refine jblk hF [(.iload 6, 2), (.aload_n 0, 1)] (by decide +kernel) (pc' := 161) (lo' := [(0, (2, 35)), (1, (0, i)), (2, (0, used)), (3, (0, k)), (4, (1, mem 70 k)), (6, (0, c))]) (st' := [(2, 35), (0, c)]) rfl ?_
                refine jget hF 13 58 0 58 rfl (by decide) (by decide) rfl wd_1521 (by decide +kernel) (by exact hS.k35) ?_
                refine jicmp_gt hF (off := 107) 271 (by decide +kernel) (by decide) (by omega) (by omega) (fun h_10 => ?_) (fun h_10 => ?_)
                · refine jvret hF hr (by decide +kernel) ?_
                  exact lMV ⟨hR_m2, by exact ⟨hfs2, fun x h1 h2 => by rw [hz70b x h1 h2, hrs x h1 h2], htr2, by rw [show (1 : Nat) = 0 + 1 from rfl, seekL (u := 3) (by decide) hske (by omega), ← hFF, show (mem 35 58 + 1).toNat = c.toNat by omega]; exact hst2⟩⟩
                · refine jblk hF [(.iload 6, 2), (.aload_n 0, 1)] (by decide +kernel) (pc' := 170) (lo' := [(0, (2, 35)), (1, (0, i)), (2, (0, used)), (3, (0, k)), (4, (1, mem 70 k)), (6, (0, c))]) (st' := [(2, 35), (0, c)]) rfl ?_
                  refine jget hF 13 58 0 58 rfl (by decide) (by decide) rfl wd_1521 (by decide +kernel) (by exact hS.k35) ?_
                  refine jicmp_ne hF (off := 12) 185 (by decide +kernel) (by decide) (by omega) (by omega) (fun h_11 => ?_) (fun h_11 => ?_)
                  · refine jblk hF [(.aload_n 0, 1)] (by decide +kernel) (pc' := 186) (lo' := [(0, (2, 35)), (1, (0, i)), (2, (0, used)), (3, (0, k)), (4, (1, mem 70 k)), (6, (0, c))]) (st' := [(2, 35)]) rfl ?_
                    refine jget hF 13 58 0 58 rfl (by decide) (by decide) rfl wd_1521 (by decide +kernel) (by exact hS.k35) ?_
                    refine jblk hF [(.iload 6, 2), (.isub, 1), (.istore 7, 2)] (by decide +kernel) (pc' := 194) (lo' := [(7, (0, (m2 35 58) - c)), (0, (2, 35)), (1, (0, i)), (2, (0, used)), (3, (0, k)), (4, (1, mem 70 k)), (6, (0, c))]) (st' := []) rfl ?_
                    have hT : ((m2 35 58) - c) = tmC (mem 35 58) c := by unfold tmC; first | (rw [if_pos (by omega)]; omega) | (rw [if_neg (by omega)]; omega)
                    have hT5 : 0 ≤ tmC (mem 35 58) c ∧ tmC (mem 35 58) c ≤ 5 := by omega
                    refine jblk hF [(.aload_n 0, 1), (.iload_n 3, 1), (.iload 7, 2), (.lload 4, 2), (.lneg, 1)] (by decide +kernel) (pc' := 201) (lo' := [(7, (0, (m2 35 58) - c)), (0, (2, 35)), (1, (0, i)), (2, (0, used)), (3, (0, k)), (4, (1, mem 70 k)), (6, (0, c))]) (st' := [(1, -(mem 70 k)), (0, (m2 35 58) - c), (0, k), (2, 35)]) rfl ?_
                    refine jcallV hF (c_X12_mark hG hS hR_m2 k ((m2 35 58) - c) (-(mem 70 k)) (by omega) (by omega) (by first | omega | (rw [e57]; omega))) MW_X12_mark 13 (by decide) (by exact hS.k35) wd_2121 wd_2123 wd_p97 (by decide +kernel) [] rfl rfl (by decide) (Nat.le_of_ble_eq_true rfl) (by decide) (kMV (fun m_12 h_13 => ?_))
                    obtain ⟨hR_m_12, h_13⟩ := h_13
                    have hb9 := h_13.1
                    have hx9 := h_13.2
                    have j58 := hb9 35 58 (by decide)
                    have j59 := hb9 35 59 (by decide)
                    refine jblk hF [(.aload_n 0, 1)] (by decide +kernel) (pc' := 205) (lo' := [(7, (0, (m2 35 58) - c)), (0, (2, 35)), (1, (0, i)), (2, (0, used)), (3, (0, k)), (4, (1, mem 70 k)), (6, (0, c))]) (st' := [(2, 35)]) rfl ?_
                    refine jget hF 13 49 2 49 rfl (by decide) (by decide) rfl wd_1512 (by decide +kernel) (by exact hS.k35) ?_
                    rw [SR.r49 hR_m_12]
                    refine jblk hF [(.iload_n 2, 1), (.aload_n 0, 1)] (by decide +kernel) (pc' := 210) (lo' := [(7, (0, (m2 35 58) - c)), (0, (2, 35)), (1, (0, i)), (2, (0, used)), (3, (0, k)), (4, (1, mem 70 k)), (6, (0, c))]) (st' := [(2, 35), (0, used), (2, 71)]) rfl ?_
                    refine jget hF 13 59 0 59 rfl (by decide) (by decide) rfl wd_1522 (by decide +kernel) (by exact hS.k35) ?_
                    refine jblk hF [(.iload_n 3, 1), (.iadd, 1)] (by decide +kernel) (pc' := 215) (lo' := [(7, (0, (m2 35 58) - c)), (0, (2, 35)), (1, (0, i)), (2, (0, used)), (3, (0, k)), (4, (1, mem 70 k)), (6, (0, c))]) (st' := [(0, (m_12 35 59) + k), (0, used), (2, 71)]) rfl ?_
                    refine jiast hF (by decide +kernel) (by decide) (by exact hS.k71) (by omega) (by have := hS.l71; omega) ?_
                    refine jblk hF [(.aload_n 0, 1)] (by decide +kernel) (pc' := 217) (lo' := [(7, (0, (m2 35 58) - c)), (0, (2, 35)), (1, (0, i)), (2, (0, used)), (3, (0, k)), (4, (1, mem 70 k)), (6, (0, c))]) (st' := [(2, 35)]) rfl ?_
                    refine jget hF 13 50 2 50 rfl (by decide) (by decide) rfl wd_1513 (by decide +kernel) (by exact hS.k35) ?_
                    rw [SR.r50 (SR.s hR_m_12 (Or.inl (by decide)))]
                    refine jblk hF [(.iload_n 2, 1), (.iload 6, 2), (.aload_n 0, 1)] (by decide +kernel) (pc' := 224) (lo' := [(7, (0, (m2 35 58) - c)), (0, (2, 35)), (1, (0, i)), (2, (0, used)), (3, (0, k)), (4, (1, mem 70 k)), (6, (0, c))]) (st' := [(2, 35), (0, c), (0, used), (2, 72)]) rfl ?_
                    refine jget hF 13 58 0 58 rfl (by decide) (by decide) rfl wd_1521 (by decide +kernel) (by exact hS.k35) ?_
                    rw [show (set2 m_12 71 used ((m_12 35 59) + k)) 35 58 = m_12 35 58 from (s2_a (by decide))]
                    refine jicmp_ne hF (off := 8) 235 (by decide +kernel) (by decide) (by omega) (by omega) (fun _ => ?_) (fun h => absurd h (by omega))
                    refine jblk hF [(.iload 6, 2)] (by decide +kernel) (pc' := 237) (lo' := [(7, (0, (m2 35 58) - c)), (0, (2, 35)), (1, (0, i)), (2, (0, used)), (3, (0, k)), (4, (1, mem 70 k)), (6, (0, c))]) (st' := [(0, c), (0, used), (2, 72)]) rfl ?_
                    have hCo : c = coC (mem 35 58) c := by unfold coC; first | exact (if_pos (by omega)).symm | exact (if_neg (by omega)).symm
                    refine jiast hF (by decide +kernel) (by decide) (by exact hS.k72) (by omega) (by have := hS.l72; omega) ?_
                    refine jblk hF [(.aload_n 0, 1)] (by decide +kernel) (pc' := 239) (lo' := [(7, (0, (m2 35 58) - c)), (0, (2, 35)), (1, (0, i)), (2, (0, used)), (3, (0, k)), (4, (1, mem 70 k)), (6, (0, c))]) (st' := [(2, 35)]) rfl ?_
                    refine jget hF 13 51 2 51 rfl (by decide) (by decide) rfl wd_1514 (by decide +kernel) (by exact hS.k35) ?_
                    rw [SR.r51 (SR.s (SR.s hR_m_12 (Or.inl (by decide))) (Or.inl (by decide)))]
                    refine jblk hF [(.iload_n 2, 1), (.lload 4, 2)] (by decide +kernel) (pc' := 245) (lo' := [(7, (0, (m2 35 58) - c)), (0, (2, 35)), (1, (0, i)), (2, (0, used)), (3, (0, k)), (4, (1, mem 70 k)), (6, (0, c))]) (st' := [(1, mem 70 k), (0, used), (2, 73)]) rfl ?_
                    refine jlast hF (by decide +kernel) (by decide) (by exact hS.k73) (by omega) (by have := hS.l73; omega) ?_
                    have hfs9 : FS mem (set2 (set2 (set2 m_12 71 used ((m_12 35 59) + k)) 72 used c) 73 used (mem 70 k)) := ((hfs2.tr (FS.of70 hb9)).tr (FS.s _ _ (by decide))).tr ((FS.s _ _ (by decide)).tr (FS.s _ _ (by decide)))
                    have g57 : (set2 (set2 (set2 m_12 71 used ((m_12 35 59) + k)) 72 used c) 73 used (mem 70 k)) 35 57 = mem 35 57 := hfs9 35 57 (by decide) (by decide) (by decide) (by decide) (by decide) (by decide) (by decide) (by decide)
                    have g58 : (set2 (set2 (set2 m_12 71 used ((m_12 35 59) + k)) 72 used c) 73 used (mem 70 k)) 35 58 = mem 35 58 := hfs9 35 58 (by decide) (by decide) (by decide) (by decide) (by decide) (by decide) (by decide) (by decide)
                    have g59 : (set2 (set2 (set2 m_12 71 used ((m_12 35 59) + k)) 72 used c) 73 used (mem 70 k)) 35 59 = mem 35 59 := hfs9 35 59 (by decide) (by decide) (by decide) (by decide) (by decide) (by decide) (by decide) (by decide)
                    have hrs9 : ∀ x : Int, 0 ≤ x → x < mem 35 57 → (set2 (set2 (set2 m_12 71 used ((m_12 35 59) + k)) 72 used c) 73 used (mem 70 k)) 70 x = markJ (mem 35 57) rs k (tmC (mem 35 58) c) (-(rs k)) (tmC (mem 35 58) c + 1) x := fun x h1 h2 => by rw [s2_a (by decide), s2_a (by decide), s2_a (by decide), hx9 x, hT, f57, hrk2]; exact markJ_congr hz70b x h1 h2
                    have htr9 : TRY (set2 (set2 (set2 m_12 71 used ((m_12 35 59) + k)) 72 used c) 73 used (mem 70 k)) 4 (upI tl 3 (mem 35 59 + k)) (upI tc 3 (coC (mem 35 58) c)) (upI ta 3 (rs k)) := by rw [hu]; exact try_up (htr2.of ⟨funext fun j => hb9 71 j (by decide), funext fun j => hb9 72 j (by decide), funext fun j => hb9 73 j (by decide)⟩) (by omega) hCo hrk2
                    have hst9 : SKST (set2 (set2 (set2 m_12 71 used ((m_12 35 59) + k)) 72 used c) 73 used (mem 70 k)) (foldC FF c.toNat S) := hst2.of (fun a j q1 q2 q3 q4 => by rw [s2_a q4, s2_a q3, s2_a q2, hb9 a j q1])
                    refine jblk hF [(.aload_n 0, 1), (.iload_n 3, 1), (.iconst 1, 1), (.iadd, 1), (.iload_n 2, 1), (.iconst 1, 1), (.iadd, 1)] (by decide +kernel) (pc' := 253) (lo' := [(7, (0, (m2 35 58) - c)), (0, (2, 35)), (1, (0, i)), (2, (0, used)), (3, (0, k)), (4, (1, mem 70 k)), (6, (0, c))]) (st' := [(0, used + 1), (0, k + 1), (2, 35)]) rfl ?_
                    refine jcallV hF (c_seek4 hG hS (SR.s (SR.s (SR.s hR_m_12 (Or.inl (by decide))) (Or.inl (by decide))) (Or.inl (by decide))) (k + 1) (used + 1) (by exact (markJ (mem 35 57) rs k (tmC (mem 35 58) c) (-(rs k)) (tmC (mem 35 58) c + 1))) (by exact (upI tl 3 (mem 35 59 + k))) (by exact (upI tc 3 (coC (mem 35 58) c))) (by exact (upI ta 3 (rs k))) (by exact (foldC FF c.toNat S)) (by omega) (by first | omega | (rw [g57]; omega) | (rw [g58]; omega) | (rw [g59]; omega)) (by first | omega | (rw [g57]; omega) | (rw [g58]; omega) | (rw [g59]; omega)) (by first | omega | (rw [g57]; omega) | (rw [g58]; omega) | (rw [g59]; omega)) (by first | omega | (rw [g57]; omega) | (rw [g58]; omega) | (rw [g59]; omega)) (by rw [g57]; exact hrs9) (by exact htr9) (by exact hst9) (by exact hsb2)) MW_X12_seek 13 (by decide) (by exact hS.k35) wd_2117 wd_2119 wd_p96 (by decide +kernel) [] rfl rfl (by decide) (Nat.le_of_ble_eq_true rfl) (by decide) (kMV (fun m_15 h_16 => ?_))
                    obtain ⟨hR_m_15, h_16⟩ := h_16
                    obtain ⟨hfs8, hz8, htr8, hst8⟩ := h_16
                    rw [g57] at hz8
                    rw [g57, g58, g59] at hst8
                    have i57 : m_15 35 57 = mem 35 57 := (hfs9.tr hfs8) 35 57 (by decide) (by decide) (by decide) (by decide) (by decide) (by decide) (by decide) (by decide)
                    refine jblk hF [(.aload_n 0, 1), (.iload_n 3, 1), (.iload 7, 2), (.lload 4, 2)] (by decide +kernel) (pc' := 262) (lo' := [(7, (0, (m2 35 58) - c)), (0, (2, 35)), (1, (0, i)), (2, (0, used)), (3, (0, k)), (4, (1, mem 70 k)), (6, (0, c))]) (st' := [(1, mem 70 k), (0, (m2 35 58) - c), (0, k), (2, 35)]) rfl ?_
                    refine jcallV hF (c_X12_mark hG hS hR_m_15 k ((m2 35 58) - c) (mem 70 k) (by omega) (by omega) (by first | omega | (rw [e57]; omega))) MW_X12_mark 13 (by decide) (by exact hS.k35) wd_2121 wd_2123 wd_p97 (by decide +kernel) [] rfl rfl (by decide) (Nat.le_of_ble_eq_true rfl) (by decide) (kMV (fun m_17 h_18 => ?_))
                    obtain ⟨hR_m_17, h_18⟩ := h_18
                    have hfs3 : FS mem m_17 := (hfs9.tr hfs8).tr (FS.of70 h_18.1)
                    have hz3 : ∀ x : Int, 0 ≤ x → x < mem 35 57 → m_17 70 x = rs x := fun x h1 h2 => by rw [h_18.2 x, hT, i57, hrk2, markJ_congr (fun y h1 h2 => (hz8 y h1 h2).trans (hrs9 y h1 h2)) x h1 h2]; exact markJ_back x
                    have htr3 : TRY m_17 3 tl tc ta := (try_dn (u := 3) htr8).of ⟨funext fun j => h_18.1 71 j (by decide), funext fun j => h_18.1 72 j (by decide), funext fun j => h_18.1 73 j (by decide)⟩
                    have hst3 : SKST m_17 (FF c (foldC FF c.toNat S)) := by rw [hFFa]; exact hst8.of (fun a j q1 _ _ _ => h_18.1 a j q1)
                    refine jblk hF [(.iinc 6 1, 3)] (by decide +kernel) (pc' := 268) (lo' := [(6, (0, c + 1)), (7, (0, (m2 35 58) - c)), (0, (2, 35)), (1, (0, i)), (2, (0, used)), (3, (0, k)), (4, (1, mem 70 k))]) (st' := []) rfl ?_
                    refine jgoto hF (off := (-110)) 158 (by decide +kernel) (by decide) ?_
                    refine jsub [2, 3, 4, 5, 6, 0] rfl ?_
                    refine ih_7 (c + 1) m_17 ?_ ?_ ?_ ?_ ?_ ?_ ?_ ?_
                    · omega
                    · assumption
                    · exact hfs3
                    · exact hz3
                    · exact htr3
                    · rw [foldC_s (by omega)]; exact hst3
                    · rw [foldC_s (by omega), hFFa]; exact hSBF _ _ _ _ _ _ hsb2
                    · omega
                  · refine jblk hF [(.aload_n 0, 1)] (by decide +kernel) (pc' := 177) (lo' := [(0, (2, 35)), (1, (0, i)), (2, (0, used)), (3, (0, k)), (4, (1, mem 70 k)), (6, (0, c))]) (st' := [(2, 35)]) rfl ?_
                    refine jget hF 13 58 0 58 rfl (by decide) (by decide) rfl wd_1521 (by decide +kernel) (by exact hS.k35) ?_
                    refine jblk hF [(.iconst 1, 1), (.iadd, 1)] (by decide +kernel) (pc' := 182) (lo' := [(0, (2, 35)), (1, (0, i)), (2, (0, used)), (3, (0, k)), (4, (1, mem 70 k)), (6, (0, c))]) (st' := [(0, (m2 35 58) + 1)]) rfl ?_
                    refine jgoto hF (off := 10) 192 (by decide +kernel) (by decide) ?_
                    refine jblk hF [(.istore 7, 2)] (by decide +kernel) (pc' := 194) (lo' := [(7, (0, (m2 35 58) + 1)), (0, (2, 35)), (1, (0, i)), (2, (0, used)), (3, (0, k)), (4, (1, mem 70 k)), (6, (0, c))]) (st' := []) rfl ?_
                    have hT : ((m2 35 58) + 1) = tmC (mem 35 58) c := by unfold tmC; first | (rw [if_pos (by omega)]; omega) | (rw [if_neg (by omega)]; omega)
                    have hT5 : 0 ≤ tmC (mem 35 58) c ∧ tmC (mem 35 58) c ≤ 5 := by omega
                    refine jblk hF [(.aload_n 0, 1), (.iload_n 3, 1), (.iload 7, 2), (.lload 4, 2), (.lneg, 1)] (by decide +kernel) (pc' := 201) (lo' := [(7, (0, (m2 35 58) + 1)), (0, (2, 35)), (1, (0, i)), (2, (0, used)), (3, (0, k)), (4, (1, mem 70 k)), (6, (0, c))]) (st' := [(1, -(mem 70 k)), (0, (m2 35 58) + 1), (0, k), (2, 35)]) rfl ?_
                    refine jcallV hF (c_X12_mark hG hS hR_m2 k ((m2 35 58) + 1) (-(mem 70 k)) (by omega) (by omega) (by first | omega | (rw [e57]; omega))) MW_X12_mark 13 (by decide) (by exact hS.k35) wd_2121 wd_2123 wd_p97 (by decide +kernel) [] rfl rfl (by decide) (Nat.le_of_ble_eq_true rfl) (by decide) (kMV (fun m_19 h_20 => ?_))
                    obtain ⟨hR_m_19, h_20⟩ := h_20
                    have hb9 := h_20.1
                    have hx9 := h_20.2
                    have j58 := hb9 35 58 (by decide)
                    have j59 := hb9 35 59 (by decide)
                    refine jblk hF [(.aload_n 0, 1)] (by decide +kernel) (pc' := 205) (lo' := [(7, (0, (m2 35 58) + 1)), (0, (2, 35)), (1, (0, i)), (2, (0, used)), (3, (0, k)), (4, (1, mem 70 k)), (6, (0, c))]) (st' := [(2, 35)]) rfl ?_
                    refine jget hF 13 49 2 49 rfl (by decide) (by decide) rfl wd_1512 (by decide +kernel) (by exact hS.k35) ?_
                    rw [SR.r49 hR_m_19]
                    refine jblk hF [(.iload_n 2, 1), (.aload_n 0, 1)] (by decide +kernel) (pc' := 210) (lo' := [(7, (0, (m2 35 58) + 1)), (0, (2, 35)), (1, (0, i)), (2, (0, used)), (3, (0, k)), (4, (1, mem 70 k)), (6, (0, c))]) (st' := [(2, 35), (0, used), (2, 71)]) rfl ?_
                    refine jget hF 13 59 0 59 rfl (by decide) (by decide) rfl wd_1522 (by decide +kernel) (by exact hS.k35) ?_
                    refine jblk hF [(.iload_n 3, 1), (.iadd, 1)] (by decide +kernel) (pc' := 215) (lo' := [(7, (0, (m2 35 58) + 1)), (0, (2, 35)), (1, (0, i)), (2, (0, used)), (3, (0, k)), (4, (1, mem 70 k)), (6, (0, c))]) (st' := [(0, (m_19 35 59) + k), (0, used), (2, 71)]) rfl ?_
                    refine jiast hF (by decide +kernel) (by decide) (by exact hS.k71) (by omega) (by have := hS.l71; omega) ?_
                    refine jblk hF [(.aload_n 0, 1)] (by decide +kernel) (pc' := 217) (lo' := [(7, (0, (m2 35 58) + 1)), (0, (2, 35)), (1, (0, i)), (2, (0, used)), (3, (0, k)), (4, (1, mem 70 k)), (6, (0, c))]) (st' := [(2, 35)]) rfl ?_
                    refine jget hF 13 50 2 50 rfl (by decide) (by decide) rfl wd_1513 (by decide +kernel) (by exact hS.k35) ?_
                    rw [SR.r50 (SR.s hR_m_19 (Or.inl (by decide)))]
                    refine jblk hF [(.iload_n 2, 1), (.iload 6, 2), (.aload_n 0, 1)] (by decide +kernel) (pc' := 224) (lo' := [(7, (0, (m2 35 58) + 1)), (0, (2, 35)), (1, (0, i)), (2, (0, used)), (3, (0, k)), (4, (1, mem 70 k)), (6, (0, c))]) (st' := [(2, 35), (0, c), (0, used), (2, 72)]) rfl ?_
                    refine jget hF 13 58 0 58 rfl (by decide) (by decide) rfl wd_1521 (by decide +kernel) (by exact hS.k35) ?_
                    rw [show (set2 m_19 71 used ((m_19 35 59) + k)) 35 58 = m_19 35 58 from (s2_a (by decide))]
                    refine jicmp_ne hF (off := 8) 235 (by decide +kernel) (by decide) (by omega) (by omega) (fun h => absurd h (by omega)) (fun _ => ?_)
                    refine jblk hF [(.bipush 9, 2)] (by decide +kernel) (pc' := 232) (lo' := [(7, (0, (m2 35 58) + 1)), (0, (2, 35)), (1, (0, i)), (2, (0, used)), (3, (0, k)), (4, (1, mem 70 k)), (6, (0, c))]) (st' := [(0, 9), (0, used), (2, 72)]) rfl ?_
                    refine jgoto hF (off := 5) 237 (by decide +kernel) (by decide) ?_
                    have hCo : 9 = coC (mem 35 58) c := by unfold coC; first | exact (if_pos (by omega)).symm | exact (if_neg (by omega)).symm
                    refine jiast hF (by decide +kernel) (by decide) (by exact hS.k72) (by omega) (by have := hS.l72; omega) ?_
                    refine jblk hF [(.aload_n 0, 1)] (by decide +kernel) (pc' := 239) (lo' := [(7, (0, (m2 35 58) + 1)), (0, (2, 35)), (1, (0, i)), (2, (0, used)), (3, (0, k)), (4, (1, mem 70 k)), (6, (0, c))]) (st' := [(2, 35)]) rfl ?_
                    refine jget hF 13 51 2 51 rfl (by decide) (by decide) rfl wd_1514 (by decide +kernel) (by exact hS.k35) ?_
                    rw [SR.r51 (SR.s (SR.s hR_m_19 (Or.inl (by decide))) (Or.inl (by decide)))]
                    refine jblk hF [(.iload_n 2, 1), (.lload 4, 2)] (by decide +kernel) (pc' := 245) (lo' := [(7, (0, (m2 35 58) + 1)), (0, (2, 35)), (1, (0, i)), (2, (0, used)), (3, (0, k)), (4, (1, mem 70 k)), (6, (0, c))]) (st' := [(1, mem 70 k), (0, used), (2, 73)]) rfl ?_
                    refine jlast hF (by decide +kernel) (by decide) (by exact hS.k73) (by omega) (by have := hS.l73; omega) ?_
                    have hfs9 : FS mem (set2 (set2 (set2 m_19 71 used ((m_19 35 59) + k)) 72 used 9) 73 used (mem 70 k)) := ((hfs2.tr (FS.of70 hb9)).tr (FS.s _ _ (by decide))).tr ((FS.s _ _ (by decide)).tr (FS.s _ _ (by decide)))
                    have g57 : (set2 (set2 (set2 m_19 71 used ((m_19 35 59) + k)) 72 used 9) 73 used (mem 70 k)) 35 57 = mem 35 57 := hfs9 35 57 (by decide) (by decide) (by decide) (by decide) (by decide) (by decide) (by decide) (by decide)
                    have g58 : (set2 (set2 (set2 m_19 71 used ((m_19 35 59) + k)) 72 used 9) 73 used (mem 70 k)) 35 58 = mem 35 58 := hfs9 35 58 (by decide) (by decide) (by decide) (by decide) (by decide) (by decide) (by decide) (by decide)
                    have g59 : (set2 (set2 (set2 m_19 71 used ((m_19 35 59) + k)) 72 used 9) 73 used (mem 70 k)) 35 59 = mem 35 59 := hfs9 35 59 (by decide) (by decide) (by decide) (by decide) (by decide) (by decide) (by decide) (by decide)
                    have hrs9 : ∀ x : Int, 0 ≤ x → x < mem 35 57 → (set2 (set2 (set2 m_19 71 used ((m_19 35 59) + k)) 72 used 9) 73 used (mem 70 k)) 70 x = markJ (mem 35 57) rs k (tmC (mem 35 58) c) (-(rs k)) (tmC (mem 35 58) c + 1) x := fun x h1 h2 => by rw [s2_a (by decide), s2_a (by decide), s2_a (by decide), hx9 x, hT, f57, hrk2]; exact markJ_congr hz70b x h1 h2
                    have htr9 : TRY (set2 (set2 (set2 m_19 71 used ((m_19 35 59) + k)) 72 used 9) 73 used (mem 70 k)) 4 (upI tl 3 (mem 35 59 + k)) (upI tc 3 (coC (mem 35 58) c)) (upI ta 3 (rs k)) := by rw [hu]; exact try_up (htr2.of ⟨funext fun j => hb9 71 j (by decide), funext fun j => hb9 72 j (by decide), funext fun j => hb9 73 j (by decide)⟩) (by omega) hCo hrk2
                    have hst9 : SKST (set2 (set2 (set2 m_19 71 used ((m_19 35 59) + k)) 72 used 9) 73 used (mem 70 k)) (foldC FF c.toNat S) := hst2.of (fun a j q1 q2 q3 q4 => by rw [s2_a q4, s2_a q3, s2_a q2, hb9 a j q1])
                    refine jblk hF [(.aload_n 0, 1), (.iload_n 3, 1), (.iconst 1, 1), (.iadd, 1), (.iload_n 2, 1), (.iconst 1, 1), (.iadd, 1)] (by decide +kernel) (pc' := 253) (lo' := [(7, (0, (m2 35 58) + 1)), (0, (2, 35)), (1, (0, i)), (2, (0, used)), (3, (0, k)), (4, (1, mem 70 k)), (6, (0, c))]) (st' := [(0, used + 1), (0, k + 1), (2, 35)]) rfl ?_
                    refine jcallV hF (c_seek4 hG hS (SR.s (SR.s (SR.s hR_m_19 (Or.inl (by decide))) (Or.inl (by decide))) (Or.inl (by decide))) (k + 1) (used + 1) (by exact (markJ (mem 35 57) rs k (tmC (mem 35 58) c) (-(rs k)) (tmC (mem 35 58) c + 1))) (by exact (upI tl 3 (mem 35 59 + k))) (by exact (upI tc 3 (coC (mem 35 58) c))) (by exact (upI ta 3 (rs k))) (by exact (foldC FF c.toNat S)) (by omega) (by first | omega | (rw [g57]; omega) | (rw [g58]; omega) | (rw [g59]; omega)) (by first | omega | (rw [g57]; omega) | (rw [g58]; omega) | (rw [g59]; omega)) (by first | omega | (rw [g57]; omega) | (rw [g58]; omega) | (rw [g59]; omega)) (by first | omega | (rw [g57]; omega) | (rw [g58]; omega) | (rw [g59]; omega)) (by rw [g57]; exact hrs9) (by exact htr9) (by exact hst9) (by exact hsb2)) MW_X12_seek 13 (by decide) (by exact hS.k35) wd_2117 wd_2119 wd_p96 (by decide +kernel) [] rfl rfl (by decide) (Nat.le_of_ble_eq_true rfl) (by decide) (kMV (fun m_22 h_23 => ?_))
                    obtain ⟨hR_m_22, h_23⟩ := h_23
                    obtain ⟨hfs8, hz8, htr8, hst8⟩ := h_23
                    rw [g57] at hz8
                    rw [g57, g58, g59] at hst8
                    have i57 : m_22 35 57 = mem 35 57 := (hfs9.tr hfs8) 35 57 (by decide) (by decide) (by decide) (by decide) (by decide) (by decide) (by decide) (by decide)
                    refine jblk hF [(.aload_n 0, 1), (.iload_n 3, 1), (.iload 7, 2), (.lload 4, 2)] (by decide +kernel) (pc' := 262) (lo' := [(7, (0, (m2 35 58) + 1)), (0, (2, 35)), (1, (0, i)), (2, (0, used)), (3, (0, k)), (4, (1, mem 70 k)), (6, (0, c))]) (st' := [(1, mem 70 k), (0, (m2 35 58) + 1), (0, k), (2, 35)]) rfl ?_
                    refine jcallV hF (c_X12_mark hG hS hR_m_22 k ((m2 35 58) + 1) (mem 70 k) (by omega) (by omega) (by first | omega | (rw [e57]; omega))) MW_X12_mark 13 (by decide) (by exact hS.k35) wd_2121 wd_2123 wd_p97 (by decide +kernel) [] rfl rfl (by decide) (Nat.le_of_ble_eq_true rfl) (by decide) (kMV (fun m_24 h_25 => ?_))
                    obtain ⟨hR_m_24, h_25⟩ := h_25
                    have hfs3 : FS mem m_24 := (hfs9.tr hfs8).tr (FS.of70 h_25.1)
                    have hz3 : ∀ x : Int, 0 ≤ x → x < mem 35 57 → m_24 70 x = rs x := fun x h1 h2 => by rw [h_25.2 x, hT, i57, hrk2, markJ_congr (fun y h1 h2 => (hz8 y h1 h2).trans (hrs9 y h1 h2)) x h1 h2]; exact markJ_back x
                    have htr3 : TRY m_24 3 tl tc ta := (try_dn (u := 3) htr8).of ⟨funext fun j => h_25.1 71 j (by decide), funext fun j => h_25.1 72 j (by decide), funext fun j => h_25.1 73 j (by decide)⟩
                    have hst3 : SKST m_24 (FF c (foldC FF c.toNat S)) := by rw [hFFa]; exact hst8.of (fun a j q1 _ _ _ => h_25.1 a j q1)
                    refine jblk hF [(.iinc 6 1, 3)] (by decide +kernel) (pc' := 268) (lo' := [(6, (0, c + 1)), (7, (0, (m2 35 58) + 1)), (0, (2, 35)), (1, (0, i)), (2, (0, used)), (3, (0, k)), (4, (1, mem 70 k))]) (st' := []) rfl ?_
                    refine jgoto hF (off := (-110)) 158 (by decide +kernel) (by decide) ?_
                    refine jsub [2, 3, 4, 5, 6, 0] rfl ?_
                    refine ih_7 (c + 1) m_24 ?_ ?_ ?_ ?_ ?_ ?_ ?_ ?_
                    · omega
                    · assumption
                    · exact hfs3
                    · exact hz3
                    · exact htr3
                    · rw [foldC_s (by omega)]; exact hst3
                    · rw [foldC_s (by omega), hFFa]; exact hSBF _ _ _ _ _ _ hsb2
                    · omega
            refine jsub [2, 3, 4, 5, 1, 0] rfl ?_
            refine L_8 _ 0 mem ?_ ?_ ?_ ?_ ?_ ?_ ?_ (Nat.lt_succ_self _)
            · omega
            · exact hR
            · exact FS.rf
            · exact hrs
            · exact htr
            · exact hst
            · exact hsb
          · refine jvret hF hr (by decide +kernel) ?_
            exact lMV ⟨hR, by exfalso; omega⟩
        · refine jblk hF [(.aload_n 0, 1)] (by decide +kernel) (pc' := 36) (lo' := [(0, (2, 35)), (1, (0, i)), (2, (0, used)), (3, (0, k))]) (st' := [(2, 35)]) rfl ?_
          refine jget hF 13 55 0 55 rfl (by decide) (by decide) rfl wd_1518 (by decide +kernel) (by exact hS.k35) ?_
          refine jblk hF [(.iconst (-1), 1)] (by decide +kernel) (pc' := 40) (lo' := [(0, (2, 35)), (1, (0, i)), (2, (0, used)), (3, (0, k))]) (st' := [(0, (-1)), (0, mem 35 55)]) rfl ?_
          refine jicmp_eq hF (off := 11) 51 (by decide +kernel) (by decide) (by omega) (by decide) (fun h_26 => ?_) (fun h_26 => ?_)
          · have hkN : k = mem 35 57 := by omega
            refine jblk hF [(.aload_n 0, 1), (.iload_n 2, 1)] (by decide +kernel) (pc' := 53) (lo' := [(0, (2, 35)), (1, (0, i)), (2, (0, used)), (3, (0, k))]) (st' := [(0, used), (2, 35)]) rfl ?_
            refine jput hF 13 55 0 55 rfl (by decide) (by decide) rfl wd_1518 (by decide +kernel) rfl (Or.inl rfl) (by exact hS.k35) (fun h => by cases h) ?_
            refine jblk hF [(.aload_n 0, 1), (.iconst 0, 1)] (by decide +kernel) (pc' := 58) (lo' := [(0, (2, 35)), (1, (0, i)), (2, (0, used)), (3, (0, k))]) (st' := [(0, 0), (2, 35)]) rfl ?_
            refine jput hF 13 56 0 56 rfl (by decide) (by decide) rfl wd_1519 (by decide +kernel) rfl (Or.inl rfl) (by exact hS.k35) (fun h => by cases h) ?_
            refine jblk hF [(.iconst 0, 1), (.istore 4, 2)] (by decide +kernel) (pc' := 64) (lo' := [(4, (0, 0)), (0, (2, 35)), (1, (0, i)), (2, (0, used)), (3, (0, k))]) (st' := []) rfl ?_
            have L_28 : ∀ (fu_29 : Nat) (j : Int) (m1 : Int → Int → Int), (0 ≤ j ∧ j ≤ 3) → (SR m1) → (FS mem m1) → (m1 70 = mem 70 ∧ m1 71 = mem 71 ∧ m1 72 = mem 72 ∧ m1 73 = mem 73) → (m1 35 55 = used ∧ m1 35 56 = 0) → (m1 74 = cpN j tl S.2.2.1 ∧ m1 75 = cpN j tc S.2.2.2.1 ∧ m1 76 = cpN j ta S.2.2.2.2) →  (4 - j).toNat < fu_29 → J z g 8 0 0 (QM z g 0 0 (pMV (fun mem' => SR mem' ∧ (FS mem mem' ∧ (∀ x : Int, 0 ≤ x → x < mem 35 57 → mem' 70 x = mem 70 x) ∧ TRY mem' 3 tl tc ta ∧ SKST mem' (seekF (mem 35 57) (mem 35 58) (mem 35 59) 1 rs i tl tc ta S))) kd ln sz)) 64 [(0, (2, 35)), (1, (0, i)), (2, (0, used)), (3, (0, k)), (4, (0, j))] [] kd ln m1 sz := by
              intro fu_29
              induction fu_29 with
              | zero => intro j m1 _ _ _ _ _ _ hm; omega
              | succ fu_29 ih_27 =>
                intro j m1 hj hR_m1 hfs hz70 hz55 hz74 hm1
                refine jblk hF [(.iload 4, 2), (.iload_n 2, 1)] (by decide +kernel) (pc' := 67) (lo' := [(0, (2, 35)), (1, (0, i)), (2, (0, used)), (3, (0, k)), (4, (0, j))]) (st' := [(0, used), (0, j)]) rfl ?_
                refine jicmp_ge hF (off := 51) 118 (by decide +kernel) (by decide) (by omega) (by omega) (fun h_30 => ?_) (fun h_30 => ?_)
                · refine jblk hF [(.aload_n 0, 1), (.dup, 1)] (by decide +kernel) (pc' := 120) (lo' := [(0, (2, 35)), (1, (0, i)), (2, (0, used)), (3, (0, k)), (4, (0, j))]) (st' := [(2, 35), (2, 35)]) rfl ?_
                  refine jget hF 13 56 0 56 rfl (by decide) (by decide) rfl wd_1519 (by decide +kernel) (by exact hS.k35) ?_
                  refine jblk hF [(.iload_n 2, 1), (.aload_n 0, 1)] (by decide +kernel) (pc' := 125) (lo' := [(0, (2, 35)), (1, (0, i)), (2, (0, used)), (3, (0, k)), (4, (0, j))]) (st' := [(2, 35), (0, used), (0, m1 35 56), (2, 35)]) rfl ?_
                  refine jget hF 13 55 0 55 rfl (by decide) (by decide) rfl wd_1518 (by decide +kernel) (by exact hS.k35) ?_
                  refine jicmp_ne hF (off := 7) 135 (by decide +kernel) (by decide) (by omega) (by omega) (fun h_31 => ?_) (fun h_31 => ?_)
                  · refine jblk hF [(.iconst 0, 1), (.iadd, 1)] (by decide +kernel) (pc' := 137) (lo' := [(0, (2, 35)), (1, (0, i)), (2, (0, used)), (3, (0, k)), (4, (0, j))]) (st' := [(0, (m1 35 56) + 0), (2, 35)]) rfl ?_
                    refine jput hF 13 56 0 56 rfl (by decide) (by decide) rfl wd_1519 (by decide +kernel) rfl (Or.inl rfl) (by exact hS.k35) (fun h => by cases h) ?_
                    refine jvret hF hr (by decide +kernel) ?_
                    exact lMV ⟨(SR.s hR_m1 (Or.inr (by decide))), by have hkN : k = mem 35 57 := (by omega); have hsT : skipN rs i (mem 35 57 - i).toNat = mem 35 57 := (by rw [hsk, hkN]; exact skip_n); rw [seekT (u := 3) (by decide) hsT]; first | exact ⟨hfs.tr (FS.p _ (by decide)), fun x _ _ => congrFun hz70.1 x, htr.of ⟨hz70.2.1, hz70.2.2.1, hz70.2.2.2⟩, fin_new (by omega) (by rw [hz55.1]; exact hu) (by rw [show (3 : Int) = j by omega]; exact hz74) (by omega)⟩ | exact ⟨FS.p _ (by decide), fun x _ _ => rfl, htr, fin_keep (by omega) hst (by first | (rw [if_pos (by omega)]; omega) | (rw [if_neg (by omega)]; omega))⟩ | (exfalso; omega)⟩
                  · refine jblk hF [(.iconst 1, 1)] (by decide +kernel) (pc' := 132) (lo' := [(0, (2, 35)), (1, (0, i)), (2, (0, used)), (3, (0, k)), (4, (0, j))]) (st' := [(0, 1), (0, m1 35 56), (2, 35)]) rfl ?_
                    refine jgoto hF (off := 4) 136 (by decide +kernel) (by decide) ?_
                    refine jblk hF [(.iadd, 1)] (by decide +kernel) (pc' := 137) (lo' := [(0, (2, 35)), (1, (0, i)), (2, (0, used)), (3, (0, k)), (4, (0, j))]) (st' := [(0, (m1 35 56) + 1), (2, 35)]) rfl ?_
                    refine jput hF 13 56 0 56 rfl (by decide) (by decide) rfl wd_1519 (by decide +kernel) rfl (Or.inl rfl) (by exact hS.k35) (fun h => by cases h) ?_
                    refine jvret hF hr (by decide +kernel) ?_
                    exact lMV ⟨(SR.s hR_m1 (Or.inr (by decide))), by have hkN : k = mem 35 57 := (by omega); have hsT : skipN rs i (mem 35 57 - i).toNat = mem 35 57 := (by rw [hsk, hkN]; exact skip_n); rw [seekT (u := 3) (by decide) hsT]; first | exact ⟨hfs.tr (FS.p _ (by decide)), fun x _ _ => congrFun hz70.1 x, htr.of ⟨hz70.2.1, hz70.2.2.1, hz70.2.2.2⟩, fin_new (by omega) (by rw [hz55.1]; exact hu) (by rw [show (3 : Int) = j by omega]; exact hz74) (by omega)⟩ | exact ⟨FS.p _ (by decide), fun x _ _ => rfl, htr, fin_keep (by omega) hst (by first | (rw [if_pos (by omega)]; omega) | (rw [if_neg (by omega)]; omega))⟩ | (exfalso; omega)⟩
                · refine jblk hF [(.aload_n 0, 1)] (by decide +kernel) (pc' := 71) (lo' := [(0, (2, 35)), (1, (0, i)), (2, (0, used)), (3, (0, k)), (4, (0, j))]) (st' := [(2, 35)]) rfl ?_
                  refine jget hF 13 52 2 52 rfl (by decide) (by decide) rfl wd_1515 (by decide +kernel) (by exact hS.k35) ?_
                  rw [SR.r52 hR_m1]
                  refine jblk hF [(.iload 4, 2), (.aload_n 0, 1)] (by decide +kernel) (pc' := 77) (lo' := [(0, (2, 35)), (1, (0, i)), (2, (0, used)), (3, (0, k)), (4, (0, j))]) (st' := [(2, 35), (0, j), (2, 74)]) rfl ?_
                  refine jget hF 13 49 2 49 rfl (by decide) (by decide) rfl wd_1512 (by decide +kernel) (by exact hS.k35) ?_
                  rw [SR.r49 hR_m1]
                  refine jblk hF [(.iload 4, 2)] (by decide +kernel) (pc' := 82) (lo' := [(0, (2, 35)), (1, (0, i)), (2, (0, used)), (3, (0, k)), (4, (0, j))]) (st' := [(0, j), (2, 71), (0, j), (2, 74)]) rfl ?_
                  refine jiald hF (by decide +kernel) (by exact hS.k71) (by omega) (by have := hS.l71; omega) ?_
                  refine jiast hF (by decide +kernel) (by decide) (by exact hS.k74) (by omega) (by have := hS.l74; omega) ?_
                  refine jblk hF [(.aload_n 0, 1)] (by decide +kernel) (pc' := 85) (lo' := [(0, (2, 35)), (1, (0, i)), (2, (0, used)), (3, (0, k)), (4, (0, j))]) (st' := [(2, 35)]) rfl ?_
                  refine jget hF 13 53 2 53 rfl (by decide) (by decide) rfl wd_1516 (by decide +kernel) (by exact hS.k35) ?_
                  rw [SR.r53 (SR.s hR_m1 (Or.inl (by decide)))]
                  refine jblk hF [(.iload 4, 2), (.aload_n 0, 1)] (by decide +kernel) (pc' := 91) (lo' := [(0, (2, 35)), (1, (0, i)), (2, (0, used)), (3, (0, k)), (4, (0, j))]) (st' := [(2, 35), (0, j), (2, 75)]) rfl ?_
                  refine jget hF 13 50 2 50 rfl (by decide) (by decide) rfl wd_1513 (by decide +kernel) (by exact hS.k35) ?_
                  rw [SR.r50 (SR.s hR_m1 (Or.inl (by decide)))]
                  refine jblk hF [(.iload 4, 2)] (by decide +kernel) (pc' := 96) (lo' := [(0, (2, 35)), (1, (0, i)), (2, (0, used)), (3, (0, k)), (4, (0, j))]) (st' := [(0, j), (2, 72), (0, j), (2, 75)]) rfl ?_
                  refine jiald hF (by decide +kernel) (by exact hS.k72) (by omega) (by have := hS.l72; omega) ?_
                  rw [show (set2 m1 74 j (m1 71 j)) 72 j = m1 72 j from (s2_a (by decide))]
                  refine jiast hF (by decide +kernel) (by decide) (by exact hS.k75) (by omega) (by have := hS.l75; omega) ?_
                  refine jblk hF [(.aload_n 0, 1)] (by decide +kernel) (pc' := 99) (lo' := [(0, (2, 35)), (1, (0, i)), (2, (0, used)), (3, (0, k)), (4, (0, j))]) (st' := [(2, 35)]) rfl ?_
                  refine jget hF 13 54 2 54 rfl (by decide) (by decide) rfl wd_1517 (by decide +kernel) (by exact hS.k35) ?_
                  rw [SR.r54 (SR.s (SR.s hR_m1 (Or.inl (by decide))) (Or.inl (by decide)))]
                  refine jblk hF [(.iload 4, 2), (.aload_n 0, 1)] (by decide +kernel) (pc' := 105) (lo' := [(0, (2, 35)), (1, (0, i)), (2, (0, used)), (3, (0, k)), (4, (0, j))]) (st' := [(2, 35), (0, j), (2, 76)]) rfl ?_
                  refine jget hF 13 51 2 51 rfl (by decide) (by decide) rfl wd_1514 (by decide +kernel) (by exact hS.k35) ?_
                  rw [SR.r51 (SR.s (SR.s hR_m1 (Or.inl (by decide))) (Or.inl (by decide)))]
                  refine jblk hF [(.iload 4, 2)] (by decide +kernel) (pc' := 110) (lo' := [(0, (2, 35)), (1, (0, i)), (2, (0, used)), (3, (0, k)), (4, (0, j))]) (st' := [(0, j), (2, 73), (0, j), (2, 76)]) rfl ?_
                  refine jlald hF (by decide +kernel) (by exact hS.k73) (by omega) (by have := hS.l73; omega) ?_
                  rw [show (set2 (set2 m1 74 j (m1 71 j)) 75 j (m1 72 j)) 73 j = m1 73 j from ((s2_a (by decide)).trans (s2_a (by decide)))]
                  refine jlast hF (by decide +kernel) (by decide) (by exact hS.k76) (by omega) (by have := hS.l76; omega) ?_
                  refine jblk hF [(.iinc 4 1, 3)] (by decide +kernel) (pc' := 115) (lo' := [(4, (0, j + 1)), (0, (2, 35)), (1, (0, i)), (2, (0, used)), (3, (0, k))]) (st' := []) rfl ?_
                  refine jgoto hF (off := (-51)) 64 (by decide +kernel) (by decide) ?_
                  refine jsub [1, 2, 3, 4, 0] rfl ?_
                  refine ih_27 (j + 1) (set2 (set2 (set2 m1 74 j (m1 71 j)) 75 j (m1 72 j)) 76 j (m1 73 j)) ?_ ?_ ?_ ?_ ?_ ?_ ?_
                  · omega
                  · exact ((hR_m1.s (Or.inl (by decide))).s (Or.inl (by decide))).s (Or.inl (by decide))
                  · exact ((hfs.tr (FS.s _ _ (by decide))).tr (FS.s _ _ (by decide))).tr (FS.s _ _ (by decide))
                  · exact ⟨hz70.1, hz70.2.1, hz70.2.2.1, hz70.2.2.2⟩
                  · exact hz55
                  · have h9 := htr j (by omega) (by omega); exact cp3 (by omega) hz74 ⟨by rw [hz70.2.1]; exact h9.1, by rw [hz70.2.2.1]; exact h9.2.1, by rw [hz70.2.2.2]; exact h9.2.2⟩
                  · omega
            refine jsub [1, 2, 3, 4, 0] rfl ?_
            refine L_28 _ 0 (set2 (set2 mem 35 55 used) 35 56 0) ?_ ?_ ?_ ?_ ?_ ?_ (Nat.lt_succ_self _)
            · omega
            · exact (hR.s (Or.inr (by decide))).s (Or.inr (by decide))
            · exact (FS.p _ (by decide)).tr (FS.p _ (by decide))
            · exact ⟨rfl, rfl, rfl, rfl⟩
            · exact ⟨by rw [s2_k (by decide), s2_s], by rw [s2_s]⟩
            · exact ⟨cpN_0 hst.2.2.1, cpN_0 hst.2.2.2.1, cpN_0 hst.2.2.2.2⟩
          · refine jblk hF [(.iload_n 2, 1), (.aload_n 0, 1)] (by decide +kernel) (pc' := 45) (lo' := [(0, (2, 35)), (1, (0, i)), (2, (0, used)), (3, (0, k))]) (st' := [(2, 35), (0, used)]) rfl ?_
            refine jget hF 13 55 0 55 rfl (by decide) (by decide) rfl wd_1518 (by decide +kernel) (by exact hS.k35) ?_
            refine jicmp_ge hF (off := 70) 118 (by decide +kernel) (by decide) (by omega) (by omega) (fun h_32 => ?_) (fun h_32 => ?_)
            · refine jblk hF [(.aload_n 0, 1), (.dup, 1)] (by decide +kernel) (pc' := 120) (lo' := [(0, (2, 35)), (1, (0, i)), (2, (0, used)), (3, (0, k))]) (st' := [(2, 35), (2, 35)]) rfl ?_
              refine jget hF 13 56 0 56 rfl (by decide) (by decide) rfl wd_1519 (by decide +kernel) (by exact hS.k35) ?_
              refine jblk hF [(.iload_n 2, 1), (.aload_n 0, 1)] (by decide +kernel) (pc' := 125) (lo' := [(0, (2, 35)), (1, (0, i)), (2, (0, used)), (3, (0, k))]) (st' := [(2, 35), (0, used), (0, mem 35 56), (2, 35)]) rfl ?_
              refine jget hF 13 55 0 55 rfl (by decide) (by decide) rfl wd_1518 (by decide +kernel) (by exact hS.k35) ?_
              refine jicmp_ne hF (off := 7) 135 (by decide +kernel) (by decide) (by omega) (by omega) (fun h_33 => ?_) (fun h_33 => ?_)
              · refine jblk hF [(.iconst 0, 1), (.iadd, 1)] (by decide +kernel) (pc' := 137) (lo' := [(0, (2, 35)), (1, (0, i)), (2, (0, used)), (3, (0, k))]) (st' := [(0, (mem 35 56) + 0), (2, 35)]) rfl ?_
                refine jput hF 13 56 0 56 rfl (by decide) (by decide) rfl wd_1519 (by decide +kernel) rfl (Or.inl rfl) (by exact hS.k35) (fun h => by cases h) ?_
                refine jvret hF hr (by decide +kernel) ?_
                exact lMV ⟨(SR.s hR (Or.inr (by decide))), by have hkN : k = mem 35 57 := (by omega); have hsT : skipN rs i (mem 35 57 - i).toNat = mem 35 57 := (by rw [hsk, hkN]; exact skip_n); rw [seekT (u := 3) (by decide) hsT]; first | exact ⟨hfs.tr (FS.p _ (by decide)), fun x _ _ => congrFun hz70.1 x, htr.of ⟨hz70.2.1, hz70.2.2.1, hz70.2.2.2⟩, fin_new (by omega) (by rw [hz55.1]; exact hu) (by rw [show (3 : Int) = j by omega]; exact hz74) (by omega)⟩ | exact ⟨FS.p _ (by decide), fun x _ _ => rfl, htr, fin_keep (by omega) hst (by first | (rw [if_pos (by omega)]; omega) | (rw [if_neg (by omega)]; omega))⟩ | (exfalso; omega)⟩
              · refine jblk hF [(.iconst 1, 1)] (by decide +kernel) (pc' := 132) (lo' := [(0, (2, 35)), (1, (0, i)), (2, (0, used)), (3, (0, k))]) (st' := [(0, 1), (0, mem 35 56), (2, 35)]) rfl ?_
                refine jgoto hF (off := 4) 136 (by decide +kernel) (by decide) ?_
                refine jblk hF [(.iadd, 1)] (by decide +kernel) (pc' := 137) (lo' := [(0, (2, 35)), (1, (0, i)), (2, (0, used)), (3, (0, k))]) (st' := [(0, (mem 35 56) + 1), (2, 35)]) rfl ?_
                refine jput hF 13 56 0 56 rfl (by decide) (by decide) rfl wd_1519 (by decide +kernel) rfl (Or.inl rfl) (by exact hS.k35) (fun h => by cases h) ?_
                refine jvret hF hr (by decide +kernel) ?_
                exact lMV ⟨(SR.s hR (Or.inr (by decide))), by have hkN : k = mem 35 57 := (by omega); have hsT : skipN rs i (mem 35 57 - i).toNat = mem 35 57 := (by rw [hsk, hkN]; exact skip_n); rw [seekT (u := 3) (by decide) hsT]; first | exact ⟨hfs.tr (FS.p _ (by decide)), fun x _ _ => congrFun hz70.1 x, htr.of ⟨hz70.2.1, hz70.2.2.1, hz70.2.2.2⟩, fin_new (by omega) (by rw [hz55.1]; exact hu) (by rw [show (3 : Int) = j by omega]; exact hz74) (by omega)⟩ | exact ⟨FS.p _ (by decide), fun x _ _ => rfl, htr, fin_keep (by omega) hst (by first | (rw [if_pos (by omega)]; omega) | (rw [if_neg (by omega)]; omega))⟩ | (exfalso; omega)⟩
            · have hkN : k = mem 35 57 := by omega
              refine jblk hF [(.aload_n 0, 1), (.iload_n 2, 1)] (by decide +kernel) (pc' := 53) (lo' := [(0, (2, 35)), (1, (0, i)), (2, (0, used)), (3, (0, k))]) (st' := [(0, used), (2, 35)]) rfl ?_
              refine jput hF 13 55 0 55 rfl (by decide) (by decide) rfl wd_1518 (by decide +kernel) rfl (Or.inl rfl) (by exact hS.k35) (fun h => by cases h) ?_
              refine jblk hF [(.aload_n 0, 1), (.iconst 0, 1)] (by decide +kernel) (pc' := 58) (lo' := [(0, (2, 35)), (1, (0, i)), (2, (0, used)), (3, (0, k))]) (st' := [(0, 0), (2, 35)]) rfl ?_
              refine jput hF 13 56 0 56 rfl (by decide) (by decide) rfl wd_1519 (by decide +kernel) rfl (Or.inl rfl) (by exact hS.k35) (fun h => by cases h) ?_
              refine jblk hF [(.iconst 0, 1), (.istore 4, 2)] (by decide +kernel) (pc' := 64) (lo' := [(4, (0, 0)), (0, (2, 35)), (1, (0, i)), (2, (0, used)), (3, (0, k))]) (st' := []) rfl ?_
              have L_35 : ∀ (fu_36 : Nat) (j : Int) (m1 : Int → Int → Int), (0 ≤ j ∧ j ≤ 3) → (SR m1) → (FS mem m1) → (m1 70 = mem 70 ∧ m1 71 = mem 71 ∧ m1 72 = mem 72 ∧ m1 73 = mem 73) → (m1 35 55 = used ∧ m1 35 56 = 0) → (m1 74 = cpN j tl S.2.2.1 ∧ m1 75 = cpN j tc S.2.2.2.1 ∧ m1 76 = cpN j ta S.2.2.2.2) →  (4 - j).toNat < fu_36 → J z g 8 0 0 (QM z g 0 0 (pMV (fun mem' => SR mem' ∧ (FS mem mem' ∧ (∀ x : Int, 0 ≤ x → x < mem 35 57 → mem' 70 x = mem 70 x) ∧ TRY mem' 3 tl tc ta ∧ SKST mem' (seekF (mem 35 57) (mem 35 58) (mem 35 59) 1 rs i tl tc ta S))) kd ln sz)) 64 [(0, (2, 35)), (1, (0, i)), (2, (0, used)), (3, (0, k)), (4, (0, j))] [] kd ln m1 sz := by
                intro fu_36
                induction fu_36 with
                | zero => intro j m1 _ _ _ _ _ _ hm; omega
                | succ fu_36 ih_34 =>
                  intro j m1 hj hR_m1 hfs hz70 hz55 hz74 hm1
                  refine jblk hF [(.iload 4, 2), (.iload_n 2, 1)] (by decide +kernel) (pc' := 67) (lo' := [(0, (2, 35)), (1, (0, i)), (2, (0, used)), (3, (0, k)), (4, (0, j))]) (st' := [(0, used), (0, j)]) rfl ?_
                  refine jicmp_ge hF (off := 51) 118 (by decide +kernel) (by decide) (by omega) (by omega) (fun h_37 => ?_) (fun h_37 => ?_)
                  · refine jblk hF [(.aload_n 0, 1), (.dup, 1)] (by decide +kernel) (pc' := 120) (lo' := [(0, (2, 35)), (1, (0, i)), (2, (0, used)), (3, (0, k)), (4, (0, j))]) (st' := [(2, 35), (2, 35)]) rfl ?_
                    refine jget hF 13 56 0 56 rfl (by decide) (by decide) rfl wd_1519 (by decide +kernel) (by exact hS.k35) ?_
                    refine jblk hF [(.iload_n 2, 1), (.aload_n 0, 1)] (by decide +kernel) (pc' := 125) (lo' := [(0, (2, 35)), (1, (0, i)), (2, (0, used)), (3, (0, k)), (4, (0, j))]) (st' := [(2, 35), (0, used), (0, m1 35 56), (2, 35)]) rfl ?_
                    refine jget hF 13 55 0 55 rfl (by decide) (by decide) rfl wd_1518 (by decide +kernel) (by exact hS.k35) ?_
                    refine jicmp_ne hF (off := 7) 135 (by decide +kernel) (by decide) (by omega) (by omega) (fun h_38 => ?_) (fun h_38 => ?_)
                    · refine jblk hF [(.iconst 0, 1), (.iadd, 1)] (by decide +kernel) (pc' := 137) (lo' := [(0, (2, 35)), (1, (0, i)), (2, (0, used)), (3, (0, k)), (4, (0, j))]) (st' := [(0, (m1 35 56) + 0), (2, 35)]) rfl ?_
                      refine jput hF 13 56 0 56 rfl (by decide) (by decide) rfl wd_1519 (by decide +kernel) rfl (Or.inl rfl) (by exact hS.k35) (fun h => by cases h) ?_
                      refine jvret hF hr (by decide +kernel) ?_
                      exact lMV ⟨(SR.s hR_m1 (Or.inr (by decide))), by have hkN : k = mem 35 57 := (by omega); have hsT : skipN rs i (mem 35 57 - i).toNat = mem 35 57 := (by rw [hsk, hkN]; exact skip_n); rw [seekT (u := 3) (by decide) hsT]; first | exact ⟨hfs.tr (FS.p _ (by decide)), fun x _ _ => congrFun hz70.1 x, htr.of ⟨hz70.2.1, hz70.2.2.1, hz70.2.2.2⟩, fin_new (by omega) (by rw [hz55.1]; exact hu) (by rw [show (3 : Int) = j by omega]; exact hz74) (by omega)⟩ | exact ⟨FS.p _ (by decide), fun x _ _ => rfl, htr, fin_keep (by omega) hst (by first | (rw [if_pos (by omega)]; omega) | (rw [if_neg (by omega)]; omega))⟩ | (exfalso; omega)⟩
                    · refine jblk hF [(.iconst 1, 1)] (by decide +kernel) (pc' := 132) (lo' := [(0, (2, 35)), (1, (0, i)), (2, (0, used)), (3, (0, k)), (4, (0, j))]) (st' := [(0, 1), (0, m1 35 56), (2, 35)]) rfl ?_
                      refine jgoto hF (off := 4) 136 (by decide +kernel) (by decide) ?_
                      refine jblk hF [(.iadd, 1)] (by decide +kernel) (pc' := 137) (lo' := [(0, (2, 35)), (1, (0, i)), (2, (0, used)), (3, (0, k)), (4, (0, j))]) (st' := [(0, (m1 35 56) + 1), (2, 35)]) rfl ?_
                      refine jput hF 13 56 0 56 rfl (by decide) (by decide) rfl wd_1519 (by decide +kernel) rfl (Or.inl rfl) (by exact hS.k35) (fun h => by cases h) ?_
                      refine jvret hF hr (by decide +kernel) ?_
                      exact lMV ⟨(SR.s hR_m1 (Or.inr (by decide))), by have hkN : k = mem 35 57 := (by omega); have hsT : skipN rs i (mem 35 57 - i).toNat = mem 35 57 := (by rw [hsk, hkN]; exact skip_n); rw [seekT (u := 3) (by decide) hsT]; first | exact ⟨hfs.tr (FS.p _ (by decide)), fun x _ _ => congrFun hz70.1 x, htr.of ⟨hz70.2.1, hz70.2.2.1, hz70.2.2.2⟩, fin_new (by omega) (by rw [hz55.1]; exact hu) (by rw [show (3 : Int) = j by omega]; exact hz74) (by omega)⟩ | exact ⟨FS.p _ (by decide), fun x _ _ => rfl, htr, fin_keep (by omega) hst (by first | (rw [if_pos (by omega)]; omega) | (rw [if_neg (by omega)]; omega))⟩ | (exfalso; omega)⟩
                  · refine jblk hF [(.aload_n 0, 1)] (by decide +kernel) (pc' := 71) (lo' := [(0, (2, 35)), (1, (0, i)), (2, (0, used)), (3, (0, k)), (4, (0, j))]) (st' := [(2, 35)]) rfl ?_
                    refine jget hF 13 52 2 52 rfl (by decide) (by decide) rfl wd_1515 (by decide +kernel) (by exact hS.k35) ?_
                    rw [SR.r52 hR_m1]
                    refine jblk hF [(.iload 4, 2), (.aload_n 0, 1)] (by decide +kernel) (pc' := 77) (lo' := [(0, (2, 35)), (1, (0, i)), (2, (0, used)), (3, (0, k)), (4, (0, j))]) (st' := [(2, 35), (0, j), (2, 74)]) rfl ?_
                    refine jget hF 13 49 2 49 rfl (by decide) (by decide) rfl wd_1512 (by decide +kernel) (by exact hS.k35) ?_
                    rw [SR.r49 hR_m1]
                    refine jblk hF [(.iload 4, 2)] (by decide +kernel) (pc' := 82) (lo' := [(0, (2, 35)), (1, (0, i)), (2, (0, used)), (3, (0, k)), (4, (0, j))]) (st' := [(0, j), (2, 71), (0, j), (2, 74)]) rfl ?_
                    refine jiald hF (by decide +kernel) (by exact hS.k71) (by omega) (by have := hS.l71; omega) ?_
                    refine jiast hF (by decide +kernel) (by decide) (by exact hS.k74) (by omega) (by have := hS.l74; omega) ?_
                    refine jblk hF [(.aload_n 0, 1)] (by decide +kernel) (pc' := 85) (lo' := [(0, (2, 35)), (1, (0, i)), (2, (0, used)), (3, (0, k)), (4, (0, j))]) (st' := [(2, 35)]) rfl ?_
                    refine jget hF 13 53 2 53 rfl (by decide) (by decide) rfl wd_1516 (by decide +kernel) (by exact hS.k35) ?_
                    rw [SR.r53 (SR.s hR_m1 (Or.inl (by decide)))]
                    refine jblk hF [(.iload 4, 2), (.aload_n 0, 1)] (by decide +kernel) (pc' := 91) (lo' := [(0, (2, 35)), (1, (0, i)), (2, (0, used)), (3, (0, k)), (4, (0, j))]) (st' := [(2, 35), (0, j), (2, 75)]) rfl ?_
                    refine jget hF 13 50 2 50 rfl (by decide) (by decide) rfl wd_1513 (by decide +kernel) (by exact hS.k35) ?_
                    rw [SR.r50 (SR.s hR_m1 (Or.inl (by decide)))]
                    refine jblk hF [(.iload 4, 2)] (by decide +kernel) (pc' := 96) (lo' := [(0, (2, 35)), (1, (0, i)), (2, (0, used)), (3, (0, k)), (4, (0, j))]) (st' := [(0, j), (2, 72), (0, j), (2, 75)]) rfl ?_
                    refine jiald hF (by decide +kernel) (by exact hS.k72) (by omega) (by have := hS.l72; omega) ?_
                    rw [show (set2 m1 74 j (m1 71 j)) 72 j = m1 72 j from (s2_a (by decide))]
                    refine jiast hF (by decide +kernel) (by decide) (by exact hS.k75) (by omega) (by have := hS.l75; omega) ?_
                    refine jblk hF [(.aload_n 0, 1)] (by decide +kernel) (pc' := 99) (lo' := [(0, (2, 35)), (1, (0, i)), (2, (0, used)), (3, (0, k)), (4, (0, j))]) (st' := [(2, 35)]) rfl ?_
                    refine jget hF 13 54 2 54 rfl (by decide) (by decide) rfl wd_1517 (by decide +kernel) (by exact hS.k35) ?_
                    rw [SR.r54 (SR.s (SR.s hR_m1 (Or.inl (by decide))) (Or.inl (by decide)))]
                    refine jblk hF [(.iload 4, 2), (.aload_n 0, 1)] (by decide +kernel) (pc' := 105) (lo' := [(0, (2, 35)), (1, (0, i)), (2, (0, used)), (3, (0, k)), (4, (0, j))]) (st' := [(2, 35), (0, j), (2, 76)]) rfl ?_
                    refine jget hF 13 51 2 51 rfl (by decide) (by decide) rfl wd_1514 (by decide +kernel) (by exact hS.k35) ?_
                    rw [SR.r51 (SR.s (SR.s hR_m1 (Or.inl (by decide))) (Or.inl (by decide)))]
                    refine jblk hF [(.iload 4, 2)] (by decide +kernel) (pc' := 110) (lo' := [(0, (2, 35)), (1, (0, i)), (2, (0, used)), (3, (0, k)), (4, (0, j))]) (st' := [(0, j), (2, 73), (0, j), (2, 76)]) rfl ?_
                    refine jlald hF (by decide +kernel) (by exact hS.k73) (by omega) (by have := hS.l73; omega) ?_
                    rw [show (set2 (set2 m1 74 j (m1 71 j)) 75 j (m1 72 j)) 73 j = m1 73 j from ((s2_a (by decide)).trans (s2_a (by decide)))]
                    refine jlast hF (by decide +kernel) (by decide) (by exact hS.k76) (by omega) (by have := hS.l76; omega) ?_
                    refine jblk hF [(.iinc 4 1, 3)] (by decide +kernel) (pc' := 115) (lo' := [(4, (0, j + 1)), (0, (2, 35)), (1, (0, i)), (2, (0, used)), (3, (0, k))]) (st' := []) rfl ?_
                    refine jgoto hF (off := (-51)) 64 (by decide +kernel) (by decide) ?_
                    refine jsub [1, 2, 3, 4, 0] rfl ?_
                    refine ih_34 (j + 1) (set2 (set2 (set2 m1 74 j (m1 71 j)) 75 j (m1 72 j)) 76 j (m1 73 j)) ?_ ?_ ?_ ?_ ?_ ?_ ?_
                    · omega
                    · exact ((hR_m1.s (Or.inl (by decide))).s (Or.inl (by decide))).s (Or.inl (by decide))
                    · exact ((hfs.tr (FS.s _ _ (by decide))).tr (FS.s _ _ (by decide))).tr (FS.s _ _ (by decide))
                    · exact ⟨hz70.1, hz70.2.1, hz70.2.2.1, hz70.2.2.2⟩
                    · exact hz55
                    · have h9 := htr j (by omega) (by omega); exact cp3 (by omega) hz74 ⟨by rw [hz70.2.1]; exact h9.1, by rw [hz70.2.2.1]; exact h9.2.1, by rw [hz70.2.2.2]; exact h9.2.2⟩
                    · omega
              refine jsub [1, 2, 3, 4, 0] rfl ?_
              refine L_35 _ 0 (set2 (set2 mem 35 55 used) 35 56 0) ?_ ?_ ?_ ?_ ?_ ?_ (Nat.lt_succ_self _)
              · omega
              · exact (hR.s (Or.inr (by decide))).s (Or.inr (by decide))
              · exact (FS.p _ (by decide)).tr (FS.p _ (by decide))
              · exact ⟨rfl, rfl, rfl, rfl⟩
              · exact ⟨by rw [s2_k (by decide), s2_s], by rw [s2_s]⟩
              · exact ⟨cpN_0 hst.2.2.1, cpN_0 hst.2.2.2.1, cpN_0 hst.2.2.2.2⟩
      · refine jblk hF [(.aload_n 0, 1)] (by decide +kernel) (pc' := 11) (lo' := [(0, (2, 35)), (1, (0, i)), (2, (0, used)), (3, (0, k))]) (st' := [(2, 35)]) rfl ?_
        refine jget hF 13 48 2 48 rfl (by decide) (by decide) rfl wd_1511 (by decide +kernel) (by exact hS.k35) ?_
        rw [SR.r48 hR]
        refine jblk hF [(.iload_n 3, 1)] (by decide +kernel) (pc' := 15) (lo' := [(0, (2, 35)), (1, (0, i)), (2, (0, used)), (3, (0, k))]) (st' := [(0, k), (2, 70)]) rfl ?_
        refine jlald hF (by decide +kernel) (by exact hS.k70) (by omega) (by have := hS.l70; omega) ?_
        refine jlconst hF (n := 0) 0 rfl (by decide +kernel) ?_
        refine jlcmpW_ne hF (off := 9) 27 (by decide +kernel) (by decide +kernel) (by decide) (fun h_39 => ?_) (fun h_39 => ?_)
        · refine jblk hF [(.iload_n 3, 1), (.aload_n 0, 1)] (by decide +kernel) (pc' := 29) (lo' := [(0, (2, 35)), (1, (0, i)), (2, (0, used)), (3, (0, k))]) (st' := [(2, 35), (0, k)]) rfl ?_
          refine jget hF 13 57 0 57 rfl (by decide) (by decide) rfl wd_1520 (by decide +kernel) (by exact hS.k35) ?_
          refine jicmp_ne hF (off := 109) 141 (by decide +kernel) (by decide) (by omega) (by omega) (fun h_40 => ?_) (fun h_40 => ?_)
          · refine jblk hF [(.iload_n 2, 1), (.iconst 4, 1)] (by decide +kernel) (pc' := 143) (lo' := [(0, (2, 35)), (1, (0, i)), (2, (0, used)), (3, (0, k))]) (st' := [(0, 4), (0, used)]) rfl ?_
            refine jicmp_ne hF (off := 4) 147 (by decide +kernel) (by decide) (by omega) (by decide) (fun h_41 => ?_) (fun h_41 => ?_)
            · have hrk2 := hrk (by omega)
              have hske : skipN rs i (mem 35 57 - i).toNat = k := by rw [hsk]; exact skip_e (by omega) (by rw [← hrk2]; first | assumption | omega)
              obtain ⟨FF, hFF⟩ : ∃ FF : Int → ST → ST, FF = (fun c => seekF (mem 35 57) (mem 35 58) (mem 35 59) 0 (markJ (mem 35 57) rs k (tmC (mem 35 58) c) (-(rs k)) (tmC (mem 35 58) c + 1)) (k + 1) (upI tl 3 (mem 35 59 + k)) (upI tc 3 (coC (mem 35 58) c)) (upI ta 3 (rs k))) := ⟨_, rfl⟩
              have hFFa := fun (c9 : Int) (S9 : ST) => congrFun (congrFun hFF c9) S9
              have hSBF := fun (rs : Int → Int) (i : Int) (tl tc ta : Int → Int) (S : ST) (h : SB S) => (seekF_bd (N := mem 35 57) (o := mem 35 58) (h := mem 35 59) 0 (by decide) rs i tl tc ta S h).1
              refine jblk hF [(.aload_n 0, 1)] (by decide +kernel) (pc' := 148) (lo' := [(0, (2, 35)), (1, (0, i)), (2, (0, used)), (3, (0, k))]) (st' := [(2, 35)]) rfl ?_
              refine jget hF 13 48 2 48 rfl (by decide) (by decide) rfl wd_1511 (by decide +kernel) (by exact hS.k35) ?_
              rw [SR.r48 hR]
              refine jblk hF [(.iload_n 3, 1)] (by decide +kernel) (pc' := 152) (lo' := [(0, (2, 35)), (1, (0, i)), (2, (0, used)), (3, (0, k))]) (st' := [(0, k), (2, 70)]) rfl ?_
              refine jlald hF (by decide +kernel) (by exact hS.k70) (by omega) (by have := hS.l70; omega) ?_
              refine jblk hF [(.lstore 4, 2), (.iconst 0, 1), (.istore 6, 2)] (by decide +kernel) (pc' := 158) (lo' := [(6, (0, 0)), (4, (1, mem 70 k)), (0, (2, 35)), (1, (0, i)), (2, (0, used)), (3, (0, k))]) (st' := []) rfl ?_
              have L_43 : ∀ (fu_44 : Nat) (c : Int) (m2 : Int → Int → Int), (0 ≤ c ∧ c ≤ mem 35 58 + 1) → (SR m2) → (FS mem m2) → (∀ x : Int, 0 ≤ x → x < mem 35 57 → m2 70 x = rs x) → (TRY m2 3 tl tc ta) → (SKST m2 (foldC FF c.toNat S)) → (SB (foldC FF c.toNat S)) →  (mem 35 58 + 1 - c).toNat < fu_44 → J z g 8 0 0 (QM z g 0 0 (pMV (fun mem' => SR mem' ∧ (FS mem mem' ∧ (∀ x : Int, 0 ≤ x → x < mem 35 57 → mem' 70 x = mem 70 x) ∧ TRY mem' 3 tl tc ta ∧ SKST mem' (seekF (mem 35 57) (mem 35 58) (mem 35 59) 1 rs i tl tc ta S))) kd ln sz)) 158 [(0, (2, 35)), (1, (0, i)), (2, (0, used)), (3, (0, k)), (4, (1, mem 70 k)), (6, (0, c))] [] kd ln m2 sz := by
                intro fu_44
                induction fu_44 with
                | zero => intro c m2 _ _ _ _ _ _ _ hm; omega
                | succ fu_44 ih_42 =>
                  intro c m2 hc hR_m2 hfs2 hz70b htr2 hst2 hsb2 hm2
                  have f57 : m2 35 57 = mem 35 57 := hfs2 35 57 (by decide) (by decide) (by decide) (by decide) (by decide) (by decide) (by decide) (by decide)
                  have f58 : m2 35 58 = mem 35 58 := hfs2 35 58 (by decide) (by decide) (by decide) (by decide) (by decide) (by decide) (by decide) (by decide)
                  have f59 : m2 35 59 = mem 35 59 := hfs2 35 59 (by decide) (by decide) (by decide) (by decide) (by decide) (by decide) (by decide) (by decide)
                  refine jblk hF [(.iload 6, 2), (.aload_n 0, 1)] (by decide +kernel) (pc' := 161) (lo' := [(0, (2, 35)), (1, (0, i)), (2, (0, used)), (3, (0, k)), (4, (1, mem 70 k)), (6, (0, c))]) (st' := [(2, 35), (0, c)]) rfl ?_
                  refine jget hF 13 58 0 58 rfl (by decide) (by decide) rfl wd_1521 (by decide +kernel) (by exact hS.k35) ?_
                  refine jicmp_gt hF (off := 107) 271 (by decide +kernel) (by decide) (by omega) (by omega) (fun h_45 => ?_) (fun h_45 => ?_)
                  · refine jvret hF hr (by decide +kernel) ?_
                    exact lMV ⟨hR_m2, by exact ⟨hfs2, fun x h1 h2 => by rw [hz70b x h1 h2, hrs x h1 h2], htr2, by rw [show (1 : Nat) = 0 + 1 from rfl, seekL (u := 3) (by decide) hske (by omega), ← hFF, show (mem 35 58 + 1).toNat = c.toNat by omega]; exact hst2⟩⟩
                  · refine jblk hF [(.iload 6, 2), (.aload_n 0, 1)] (by decide +kernel) (pc' := 170) (lo' := [(0, (2, 35)), (1, (0, i)), (2, (0, used)), (3, (0, k)), (4, (1, mem 70 k)), (6, (0, c))]) (st' := [(2, 35), (0, c)]) rfl ?_
                    refine jget hF 13 58 0 58 rfl (by decide) (by decide) rfl wd_1521 (by decide +kernel) (by exact hS.k35) ?_
                    refine jicmp_ne hF (off := 12) 185 (by decide +kernel) (by decide) (by omega) (by omega) (fun h_46 => ?_) (fun h_46 => ?_)
                    · refine jblk hF [(.aload_n 0, 1)] (by decide +kernel) (pc' := 186) (lo' := [(0, (2, 35)), (1, (0, i)), (2, (0, used)), (3, (0, k)), (4, (1, mem 70 k)), (6, (0, c))]) (st' := [(2, 35)]) rfl ?_
                      refine jget hF 13 58 0 58 rfl (by decide) (by decide) rfl wd_1521 (by decide +kernel) (by exact hS.k35) ?_
                      refine jblk hF [(.iload 6, 2), (.isub, 1), (.istore 7, 2)] (by decide +kernel) (pc' := 194) (lo' := [(7, (0, (m2 35 58) - c)), (0, (2, 35)), (1, (0, i)), (2, (0, used)), (3, (0, k)), (4, (1, mem 70 k)), (6, (0, c))]) (st' := []) rfl ?_
                      have hT : ((m2 35 58) - c) = tmC (mem 35 58) c := by unfold tmC; first | (rw [if_pos (by omega)]; omega) | (rw [if_neg (by omega)]; omega)
                      have hT5 : 0 ≤ tmC (mem 35 58) c ∧ tmC (mem 35 58) c ≤ 5 := by omega
                      refine jblk hF [(.aload_n 0, 1), (.iload_n 3, 1), (.iload 7, 2), (.lload 4, 2), (.lneg, 1)] (by decide +kernel) (pc' := 201) (lo' := [(7, (0, (m2 35 58) - c)), (0, (2, 35)), (1, (0, i)), (2, (0, used)), (3, (0, k)), (4, (1, mem 70 k)), (6, (0, c))]) (st' := [(1, -(mem 70 k)), (0, (m2 35 58) - c), (0, k), (2, 35)]) rfl ?_
                      refine jcallV hF (c_X12_mark hG hS hR_m2 k ((m2 35 58) - c) (-(mem 70 k)) (by omega) (by omega) (by first | omega | (rw [e57]; omega))) MW_X12_mark 13 (by decide) (by exact hS.k35) wd_2121 wd_2123 wd_p97 (by decide +kernel) [] rfl rfl (by decide) (Nat.le_of_ble_eq_true rfl) (by decide) (kMV (fun m_47 h_48 => ?_))
                      obtain ⟨hR_m_47, h_48⟩ := h_48
                      have hb9 := h_48.1
                      have hx9 := h_48.2
                      have j58 := hb9 35 58 (by decide)
                      have j59 := hb9 35 59 (by decide)
                      refine jblk hF [(.aload_n 0, 1)] (by decide +kernel) (pc' := 205) (lo' := [(7, (0, (m2 35 58) - c)), (0, (2, 35)), (1, (0, i)), (2, (0, used)), (3, (0, k)), (4, (1, mem 70 k)), (6, (0, c))]) (st' := [(2, 35)]) rfl ?_
                      refine jget hF 13 49 2 49 rfl (by decide) (by decide) rfl wd_1512 (by decide +kernel) (by exact hS.k35) ?_
                      rw [SR.r49 hR_m_47]
                      refine jblk hF [(.iload_n 2, 1), (.aload_n 0, 1)] (by decide +kernel) (pc' := 210) (lo' := [(7, (0, (m2 35 58) - c)), (0, (2, 35)), (1, (0, i)), (2, (0, used)), (3, (0, k)), (4, (1, mem 70 k)), (6, (0, c))]) (st' := [(2, 35), (0, used), (2, 71)]) rfl ?_
                      refine jget hF 13 59 0 59 rfl (by decide) (by decide) rfl wd_1522 (by decide +kernel) (by exact hS.k35) ?_
                      refine jblk hF [(.iload_n 3, 1), (.iadd, 1)] (by decide +kernel) (pc' := 215) (lo' := [(7, (0, (m2 35 58) - c)), (0, (2, 35)), (1, (0, i)), (2, (0, used)), (3, (0, k)), (4, (1, mem 70 k)), (6, (0, c))]) (st' := [(0, (m_47 35 59) + k), (0, used), (2, 71)]) rfl ?_
                      refine jiast hF (by decide +kernel) (by decide) (by exact hS.k71) (by omega) (by have := hS.l71; omega) ?_
                      refine jblk hF [(.aload_n 0, 1)] (by decide +kernel) (pc' := 217) (lo' := [(7, (0, (m2 35 58) - c)), (0, (2, 35)), (1, (0, i)), (2, (0, used)), (3, (0, k)), (4, (1, mem 70 k)), (6, (0, c))]) (st' := [(2, 35)]) rfl ?_
                      refine jget hF 13 50 2 50 rfl (by decide) (by decide) rfl wd_1513 (by decide +kernel) (by exact hS.k35) ?_
                      rw [SR.r50 (SR.s hR_m_47 (Or.inl (by decide)))]
                      refine jblk hF [(.iload_n 2, 1), (.iload 6, 2), (.aload_n 0, 1)] (by decide +kernel) (pc' := 224) (lo' := [(7, (0, (m2 35 58) - c)), (0, (2, 35)), (1, (0, i)), (2, (0, used)), (3, (0, k)), (4, (1, mem 70 k)), (6, (0, c))]) (st' := [(2, 35), (0, c), (0, used), (2, 72)]) rfl ?_
                      refine jget hF 13 58 0 58 rfl (by decide) (by decide) rfl wd_1521 (by decide +kernel) (by exact hS.k35) ?_
                      rw [show (set2 m_47 71 used ((m_47 35 59) + k)) 35 58 = m_47 35 58 from (s2_a (by decide))]
                      refine jicmp_ne hF (off := 8) 235 (by decide +kernel) (by decide) (by omega) (by omega) (fun _ => ?_) (fun h => absurd h (by omega))
                      refine jblk hF [(.iload 6, 2)] (by decide +kernel) (pc' := 237) (lo' := [(7, (0, (m2 35 58) - c)), (0, (2, 35)), (1, (0, i)), (2, (0, used)), (3, (0, k)), (4, (1, mem 70 k)), (6, (0, c))]) (st' := [(0, c), (0, used), (2, 72)]) rfl ?_
                      have hCo : c = coC (mem 35 58) c := by unfold coC; first | exact (if_pos (by omega)).symm | exact (if_neg (by omega)).symm
                      refine jiast hF (by decide +kernel) (by decide) (by exact hS.k72) (by omega) (by have := hS.l72; omega) ?_
                      refine jblk hF [(.aload_n 0, 1)] (by decide +kernel) (pc' := 239) (lo' := [(7, (0, (m2 35 58) - c)), (0, (2, 35)), (1, (0, i)), (2, (0, used)), (3, (0, k)), (4, (1, mem 70 k)), (6, (0, c))]) (st' := [(2, 35)]) rfl ?_
                      refine jget hF 13 51 2 51 rfl (by decide) (by decide) rfl wd_1514 (by decide +kernel) (by exact hS.k35) ?_
                      rw [SR.r51 (SR.s (SR.s hR_m_47 (Or.inl (by decide))) (Or.inl (by decide)))]
                      refine jblk hF [(.iload_n 2, 1), (.lload 4, 2)] (by decide +kernel) (pc' := 245) (lo' := [(7, (0, (m2 35 58) - c)), (0, (2, 35)), (1, (0, i)), (2, (0, used)), (3, (0, k)), (4, (1, mem 70 k)), (6, (0, c))]) (st' := [(1, mem 70 k), (0, used), (2, 73)]) rfl ?_
                      refine jlast hF (by decide +kernel) (by decide) (by exact hS.k73) (by omega) (by have := hS.l73; omega) ?_
                      have hfs9 : FS mem (set2 (set2 (set2 m_47 71 used ((m_47 35 59) + k)) 72 used c) 73 used (mem 70 k)) := ((hfs2.tr (FS.of70 hb9)).tr (FS.s _ _ (by decide))).tr ((FS.s _ _ (by decide)).tr (FS.s _ _ (by decide)))
                      have g57 : (set2 (set2 (set2 m_47 71 used ((m_47 35 59) + k)) 72 used c) 73 used (mem 70 k)) 35 57 = mem 35 57 := hfs9 35 57 (by decide) (by decide) (by decide) (by decide) (by decide) (by decide) (by decide) (by decide)
                      have g58 : (set2 (set2 (set2 m_47 71 used ((m_47 35 59) + k)) 72 used c) 73 used (mem 70 k)) 35 58 = mem 35 58 := hfs9 35 58 (by decide) (by decide) (by decide) (by decide) (by decide) (by decide) (by decide) (by decide)
                      have g59 : (set2 (set2 (set2 m_47 71 used ((m_47 35 59) + k)) 72 used c) 73 used (mem 70 k)) 35 59 = mem 35 59 := hfs9 35 59 (by decide) (by decide) (by decide) (by decide) (by decide) (by decide) (by decide) (by decide)
                      have hrs9 : ∀ x : Int, 0 ≤ x → x < mem 35 57 → (set2 (set2 (set2 m_47 71 used ((m_47 35 59) + k)) 72 used c) 73 used (mem 70 k)) 70 x = markJ (mem 35 57) rs k (tmC (mem 35 58) c) (-(rs k)) (tmC (mem 35 58) c + 1) x := fun x h1 h2 => by rw [s2_a (by decide), s2_a (by decide), s2_a (by decide), hx9 x, hT, f57, hrk2]; exact markJ_congr hz70b x h1 h2
                      have htr9 : TRY (set2 (set2 (set2 m_47 71 used ((m_47 35 59) + k)) 72 used c) 73 used (mem 70 k)) 4 (upI tl 3 (mem 35 59 + k)) (upI tc 3 (coC (mem 35 58) c)) (upI ta 3 (rs k)) := by rw [hu]; exact try_up (htr2.of ⟨funext fun j => hb9 71 j (by decide), funext fun j => hb9 72 j (by decide), funext fun j => hb9 73 j (by decide)⟩) (by omega) hCo hrk2
                      have hst9 : SKST (set2 (set2 (set2 m_47 71 used ((m_47 35 59) + k)) 72 used c) 73 used (mem 70 k)) (foldC FF c.toNat S) := hst2.of (fun a j q1 q2 q3 q4 => by rw [s2_a q4, s2_a q3, s2_a q2, hb9 a j q1])
                      refine jblk hF [(.aload_n 0, 1), (.iload_n 3, 1), (.iconst 1, 1), (.iadd, 1), (.iload_n 2, 1), (.iconst 1, 1), (.iadd, 1)] (by decide +kernel) (pc' := 253) (lo' := [(7, (0, (m2 35 58) - c)), (0, (2, 35)), (1, (0, i)), (2, (0, used)), (3, (0, k)), (4, (1, mem 70 k)), (6, (0, c))]) (st' := [(0, used + 1), (0, k + 1), (2, 35)]) rfl ?_
                      refine jcallV hF (c_seek4 hG hS (SR.s (SR.s (SR.s hR_m_47 (Or.inl (by decide))) (Or.inl (by decide))) (Or.inl (by decide))) (k + 1) (used + 1) (by exact (markJ (mem 35 57) rs k (tmC (mem 35 58) c) (-(rs k)) (tmC (mem 35 58) c + 1))) (by exact (upI tl 3 (mem 35 59 + k))) (by exact (upI tc 3 (coC (mem 35 58) c))) (by exact (upI ta 3 (rs k))) (by exact (foldC FF c.toNat S)) (by omega) (by first | omega | (rw [g57]; omega) | (rw [g58]; omega) | (rw [g59]; omega)) (by first | omega | (rw [g57]; omega) | (rw [g58]; omega) | (rw [g59]; omega)) (by first | omega | (rw [g57]; omega) | (rw [g58]; omega) | (rw [g59]; omega)) (by first | omega | (rw [g57]; omega) | (rw [g58]; omega) | (rw [g59]; omega)) (by rw [g57]; exact hrs9) (by exact htr9) (by exact hst9) (by exact hsb2)) MW_X12_seek 13 (by decide) (by exact hS.k35) wd_2117 wd_2119 wd_p96 (by decide +kernel) [] rfl rfl (by decide) (Nat.le_of_ble_eq_true rfl) (by decide) (kMV (fun m_50 h_51 => ?_))
                      obtain ⟨hR_m_50, h_51⟩ := h_51
                      obtain ⟨hfs8, hz8, htr8, hst8⟩ := h_51
                      rw [g57] at hz8
                      rw [g57, g58, g59] at hst8
                      have i57 : m_50 35 57 = mem 35 57 := (hfs9.tr hfs8) 35 57 (by decide) (by decide) (by decide) (by decide) (by decide) (by decide) (by decide) (by decide)
                      refine jblk hF [(.aload_n 0, 1), (.iload_n 3, 1), (.iload 7, 2), (.lload 4, 2)] (by decide +kernel) (pc' := 262) (lo' := [(7, (0, (m2 35 58) - c)), (0, (2, 35)), (1, (0, i)), (2, (0, used)), (3, (0, k)), (4, (1, mem 70 k)), (6, (0, c))]) (st' := [(1, mem 70 k), (0, (m2 35 58) - c), (0, k), (2, 35)]) rfl ?_
                      refine jcallV hF (c_X12_mark hG hS hR_m_50 k ((m2 35 58) - c) (mem 70 k) (by omega) (by omega) (by first | omega | (rw [e57]; omega))) MW_X12_mark 13 (by decide) (by exact hS.k35) wd_2121 wd_2123 wd_p97 (by decide +kernel) [] rfl rfl (by decide) (Nat.le_of_ble_eq_true rfl) (by decide) (kMV (fun m_52 h_53 => ?_))
                      obtain ⟨hR_m_52, h_53⟩ := h_53
                      have hfs3 : FS mem m_52 := (hfs9.tr hfs8).tr (FS.of70 h_53.1)
                      have hz3 : ∀ x : Int, 0 ≤ x → x < mem 35 57 → m_52 70 x = rs x := fun x h1 h2 => by rw [h_53.2 x, hT, i57, hrk2, markJ_congr (fun y h1 h2 => (hz8 y h1 h2).trans (hrs9 y h1 h2)) x h1 h2]; exact markJ_back x
                      have htr3 : TRY m_52 3 tl tc ta := (try_dn (u := 3) htr8).of ⟨funext fun j => h_53.1 71 j (by decide), funext fun j => h_53.1 72 j (by decide), funext fun j => h_53.1 73 j (by decide)⟩
                      have hst3 : SKST m_52 (FF c (foldC FF c.toNat S)) := by rw [hFFa]; exact hst8.of (fun a j q1 _ _ _ => h_53.1 a j q1)
                      refine jblk hF [(.iinc 6 1, 3)] (by decide +kernel) (pc' := 268) (lo' := [(6, (0, c + 1)), (7, (0, (m2 35 58) - c)), (0, (2, 35)), (1, (0, i)), (2, (0, used)), (3, (0, k)), (4, (1, mem 70 k))]) (st' := []) rfl ?_
                      refine jgoto hF (off := (-110)) 158 (by decide +kernel) (by decide) ?_
                      refine jsub [2, 3, 4, 5, 6, 0] rfl ?_
                      refine ih_42 (c + 1) m_52 ?_ ?_ ?_ ?_ ?_ ?_ ?_ ?_
                      · omega
                      · assumption
                      · exact hfs3
                      · exact hz3
                      · exact htr3
                      · rw [foldC_s (by omega)]; exact hst3
                      · rw [foldC_s (by omega), hFFa]; exact hSBF _ _ _ _ _ _ hsb2
                      · omega
                    · refine jblk hF [(.aload_n 0, 1)] (by decide +kernel) (pc' := 177) (lo' := [(0, (2, 35)), (1, (0, i)), (2, (0, used)), (3, (0, k)), (4, (1, mem 70 k)), (6, (0, c))]) (st' := [(2, 35)]) rfl ?_
                      refine jget hF 13 58 0 58 rfl (by decide) (by decide) rfl wd_1521 (by decide +kernel) (by exact hS.k35) ?_
                      refine jblk hF [(.iconst 1, 1), (.iadd, 1)] (by decide +kernel) (pc' := 182) (lo' := [(0, (2, 35)), (1, (0, i)), (2, (0, used)), (3, (0, k)), (4, (1, mem 70 k)), (6, (0, c))]) (st' := [(0, (m2 35 58) + 1)]) rfl ?_
                      refine jgoto hF (off := 10) 192 (by decide +kernel) (by decide) ?_
                      refine jblk hF [(.istore 7, 2)] (by decide +kernel) (pc' := 194) (lo' := [(7, (0, (m2 35 58) + 1)), (0, (2, 35)), (1, (0, i)), (2, (0, used)), (3, (0, k)), (4, (1, mem 70 k)), (6, (0, c))]) (st' := []) rfl ?_
                      have hT : ((m2 35 58) + 1) = tmC (mem 35 58) c := by unfold tmC; first | (rw [if_pos (by omega)]; omega) | (rw [if_neg (by omega)]; omega)
                      have hT5 : 0 ≤ tmC (mem 35 58) c ∧ tmC (mem 35 58) c ≤ 5 := by omega
                      refine jblk hF [(.aload_n 0, 1), (.iload_n 3, 1), (.iload 7, 2), (.lload 4, 2), (.lneg, 1)] (by decide +kernel) (pc' := 201) (lo' := [(7, (0, (m2 35 58) + 1)), (0, (2, 35)), (1, (0, i)), (2, (0, used)), (3, (0, k)), (4, (1, mem 70 k)), (6, (0, c))]) (st' := [(1, -(mem 70 k)), (0, (m2 35 58) + 1), (0, k), (2, 35)]) rfl ?_
                      refine jcallV hF (c_X12_mark hG hS hR_m2 k ((m2 35 58) + 1) (-(mem 70 k)) (by omega) (by omega) (by first | omega | (rw [e57]; omega))) MW_X12_mark 13 (by decide) (by exact hS.k35) wd_2121 wd_2123 wd_p97 (by decide +kernel) [] rfl rfl (by decide) (Nat.le_of_ble_eq_true rfl) (by decide) (kMV (fun m_54 h_55 => ?_))
                      obtain ⟨hR_m_54, h_55⟩ := h_55
                      have hb9 := h_55.1
                      have hx9 := h_55.2
                      have j58 := hb9 35 58 (by decide)
                      have j59 := hb9 35 59 (by decide)
                      refine jblk hF [(.aload_n 0, 1)] (by decide +kernel) (pc' := 205) (lo' := [(7, (0, (m2 35 58) + 1)), (0, (2, 35)), (1, (0, i)), (2, (0, used)), (3, (0, k)), (4, (1, mem 70 k)), (6, (0, c))]) (st' := [(2, 35)]) rfl ?_
                      refine jget hF 13 49 2 49 rfl (by decide) (by decide) rfl wd_1512 (by decide +kernel) (by exact hS.k35) ?_
                      rw [SR.r49 hR_m_54]
                      refine jblk hF [(.iload_n 2, 1), (.aload_n 0, 1)] (by decide +kernel) (pc' := 210) (lo' := [(7, (0, (m2 35 58) + 1)), (0, (2, 35)), (1, (0, i)), (2, (0, used)), (3, (0, k)), (4, (1, mem 70 k)), (6, (0, c))]) (st' := [(2, 35), (0, used), (2, 71)]) rfl ?_
                      refine jget hF 13 59 0 59 rfl (by decide) (by decide) rfl wd_1522 (by decide +kernel) (by exact hS.k35) ?_
                      refine jblk hF [(.iload_n 3, 1), (.iadd, 1)] (by decide +kernel) (pc' := 215) (lo' := [(7, (0, (m2 35 58) + 1)), (0, (2, 35)), (1, (0, i)), (2, (0, used)), (3, (0, k)), (4, (1, mem 70 k)), (6, (0, c))]) (st' := [(0, (m_54 35 59) + k), (0, used), (2, 71)]) rfl ?_
                      refine jiast hF (by decide +kernel) (by decide) (by exact hS.k71) (by omega) (by have := hS.l71; omega) ?_
                      refine jblk hF [(.aload_n 0, 1)] (by decide +kernel) (pc' := 217) (lo' := [(7, (0, (m2 35 58) + 1)), (0, (2, 35)), (1, (0, i)), (2, (0, used)), (3, (0, k)), (4, (1, mem 70 k)), (6, (0, c))]) (st' := [(2, 35)]) rfl ?_
                      refine jget hF 13 50 2 50 rfl (by decide) (by decide) rfl wd_1513 (by decide +kernel) (by exact hS.k35) ?_
                      rw [SR.r50 (SR.s hR_m_54 (Or.inl (by decide)))]
                      refine jblk hF [(.iload_n 2, 1), (.iload 6, 2), (.aload_n 0, 1)] (by decide +kernel) (pc' := 224) (lo' := [(7, (0, (m2 35 58) + 1)), (0, (2, 35)), (1, (0, i)), (2, (0, used)), (3, (0, k)), (4, (1, mem 70 k)), (6, (0, c))]) (st' := [(2, 35), (0, c), (0, used), (2, 72)]) rfl ?_
                      refine jget hF 13 58 0 58 rfl (by decide) (by decide) rfl wd_1521 (by decide +kernel) (by exact hS.k35) ?_
                      rw [show (set2 m_54 71 used ((m_54 35 59) + k)) 35 58 = m_54 35 58 from (s2_a (by decide))]
                      refine jicmp_ne hF (off := 8) 235 (by decide +kernel) (by decide) (by omega) (by omega) (fun h => absurd h (by omega)) (fun _ => ?_)
                      refine jblk hF [(.bipush 9, 2)] (by decide +kernel) (pc' := 232) (lo' := [(7, (0, (m2 35 58) + 1)), (0, (2, 35)), (1, (0, i)), (2, (0, used)), (3, (0, k)), (4, (1, mem 70 k)), (6, (0, c))]) (st' := [(0, 9), (0, used), (2, 72)]) rfl ?_
                      refine jgoto hF (off := 5) 237 (by decide +kernel) (by decide) ?_
                      have hCo : 9 = coC (mem 35 58) c := by unfold coC; first | exact (if_pos (by omega)).symm | exact (if_neg (by omega)).symm
                      refine jiast hF (by decide +kernel) (by decide) (by exact hS.k72) (by omega) (by have := hS.l72; omega) ?_
                      refine jblk hF [(.aload_n 0, 1)] (by decide +kernel) (pc' := 239) (lo' := [(7, (0, (m2 35 58) + 1)), (0, (2, 35)), (1, (0, i)), (2, (0, used)), (3, (0, k)), (4, (1, mem 70 k)), (6, (0, c))]) (st' := [(2, 35)]) rfl ?_
                      refine jget hF 13 51 2 51 rfl (by decide) (by decide) rfl wd_1514 (by decide +kernel) (by exact hS.k35) ?_
                      rw [SR.r51 (SR.s (SR.s hR_m_54 (Or.inl (by decide))) (Or.inl (by decide)))]
                      refine jblk hF [(.iload_n 2, 1), (.lload 4, 2)] (by decide +kernel) (pc' := 245) (lo' := [(7, (0, (m2 35 58) + 1)), (0, (2, 35)), (1, (0, i)), (2, (0, used)), (3, (0, k)), (4, (1, mem 70 k)), (6, (0, c))]) (st' := [(1, mem 70 k), (0, used), (2, 73)]) rfl ?_
                      refine jlast hF (by decide +kernel) (by decide) (by exact hS.k73) (by omega) (by have := hS.l73; omega) ?_
                      have hfs9 : FS mem (set2 (set2 (set2 m_54 71 used ((m_54 35 59) + k)) 72 used 9) 73 used (mem 70 k)) := ((hfs2.tr (FS.of70 hb9)).tr (FS.s _ _ (by decide))).tr ((FS.s _ _ (by decide)).tr (FS.s _ _ (by decide)))
                      have g57 : (set2 (set2 (set2 m_54 71 used ((m_54 35 59) + k)) 72 used 9) 73 used (mem 70 k)) 35 57 = mem 35 57 := hfs9 35 57 (by decide) (by decide) (by decide) (by decide) (by decide) (by decide) (by decide) (by decide)
                      have g58 : (set2 (set2 (set2 m_54 71 used ((m_54 35 59) + k)) 72 used 9) 73 used (mem 70 k)) 35 58 = mem 35 58 := hfs9 35 58 (by decide) (by decide) (by decide) (by decide) (by decide) (by decide) (by decide) (by decide)
                      have g59 : (set2 (set2 (set2 m_54 71 used ((m_54 35 59) + k)) 72 used 9) 73 used (mem 70 k)) 35 59 = mem 35 59 := hfs9 35 59 (by decide) (by decide) (by decide) (by decide) (by decide) (by decide) (by decide) (by decide)
                      have hrs9 : ∀ x : Int, 0 ≤ x → x < mem 35 57 → (set2 (set2 (set2 m_54 71 used ((m_54 35 59) + k)) 72 used 9) 73 used (mem 70 k)) 70 x = markJ (mem 35 57) rs k (tmC (mem 35 58) c) (-(rs k)) (tmC (mem 35 58) c + 1) x := fun x h1 h2 => by rw [s2_a (by decide), s2_a (by decide), s2_a (by decide), hx9 x, hT, f57, hrk2]; exact markJ_congr hz70b x h1 h2
                      have htr9 : TRY (set2 (set2 (set2 m_54 71 used ((m_54 35 59) + k)) 72 used 9) 73 used (mem 70 k)) 4 (upI tl 3 (mem 35 59 + k)) (upI tc 3 (coC (mem 35 58) c)) (upI ta 3 (rs k)) := by rw [hu]; exact try_up (htr2.of ⟨funext fun j => hb9 71 j (by decide), funext fun j => hb9 72 j (by decide), funext fun j => hb9 73 j (by decide)⟩) (by omega) hCo hrk2
                      have hst9 : SKST (set2 (set2 (set2 m_54 71 used ((m_54 35 59) + k)) 72 used 9) 73 used (mem 70 k)) (foldC FF c.toNat S) := hst2.of (fun a j q1 q2 q3 q4 => by rw [s2_a q4, s2_a q3, s2_a q2, hb9 a j q1])
                      refine jblk hF [(.aload_n 0, 1), (.iload_n 3, 1), (.iconst 1, 1), (.iadd, 1), (.iload_n 2, 1), (.iconst 1, 1), (.iadd, 1)] (by decide +kernel) (pc' := 253) (lo' := [(7, (0, (m2 35 58) + 1)), (0, (2, 35)), (1, (0, i)), (2, (0, used)), (3, (0, k)), (4, (1, mem 70 k)), (6, (0, c))]) (st' := [(0, used + 1), (0, k + 1), (2, 35)]) rfl ?_
                      refine jcallV hF (c_seek4 hG hS (SR.s (SR.s (SR.s hR_m_54 (Or.inl (by decide))) (Or.inl (by decide))) (Or.inl (by decide))) (k + 1) (used + 1) (by exact (markJ (mem 35 57) rs k (tmC (mem 35 58) c) (-(rs k)) (tmC (mem 35 58) c + 1))) (by exact (upI tl 3 (mem 35 59 + k))) (by exact (upI tc 3 (coC (mem 35 58) c))) (by exact (upI ta 3 (rs k))) (by exact (foldC FF c.toNat S)) (by omega) (by first | omega | (rw [g57]; omega) | (rw [g58]; omega) | (rw [g59]; omega)) (by first | omega | (rw [g57]; omega) | (rw [g58]; omega) | (rw [g59]; omega)) (by first | omega | (rw [g57]; omega) | (rw [g58]; omega) | (rw [g59]; omega)) (by first | omega | (rw [g57]; omega) | (rw [g58]; omega) | (rw [g59]; omega)) (by rw [g57]; exact hrs9) (by exact htr9) (by exact hst9) (by exact hsb2)) MW_X12_seek 13 (by decide) (by exact hS.k35) wd_2117 wd_2119 wd_p96 (by decide +kernel) [] rfl rfl (by decide) (Nat.le_of_ble_eq_true rfl) (by decide) (kMV (fun m_57 h_58 => ?_))
                      obtain ⟨hR_m_57, h_58⟩ := h_58
                      obtain ⟨hfs8, hz8, htr8, hst8⟩ := h_58
                      rw [g57] at hz8
                      rw [g57, g58, g59] at hst8
                      have i57 : m_57 35 57 = mem 35 57 := (hfs9.tr hfs8) 35 57 (by decide) (by decide) (by decide) (by decide) (by decide) (by decide) (by decide) (by decide)
                      refine jblk hF [(.aload_n 0, 1), (.iload_n 3, 1), (.iload 7, 2), (.lload 4, 2)] (by decide +kernel) (pc' := 262) (lo' := [(7, (0, (m2 35 58) + 1)), (0, (2, 35)), (1, (0, i)), (2, (0, used)), (3, (0, k)), (4, (1, mem 70 k)), (6, (0, c))]) (st' := [(1, mem 70 k), (0, (m2 35 58) + 1), (0, k), (2, 35)]) rfl ?_
                      refine jcallV hF (c_X12_mark hG hS hR_m_57 k ((m2 35 58) + 1) (mem 70 k) (by omega) (by omega) (by first | omega | (rw [e57]; omega))) MW_X12_mark 13 (by decide) (by exact hS.k35) wd_2121 wd_2123 wd_p97 (by decide +kernel) [] rfl rfl (by decide) (Nat.le_of_ble_eq_true rfl) (by decide) (kMV (fun m_59 h_60 => ?_))
                      obtain ⟨hR_m_59, h_60⟩ := h_60
                      have hfs3 : FS mem m_59 := (hfs9.tr hfs8).tr (FS.of70 h_60.1)
                      have hz3 : ∀ x : Int, 0 ≤ x → x < mem 35 57 → m_59 70 x = rs x := fun x h1 h2 => by rw [h_60.2 x, hT, i57, hrk2, markJ_congr (fun y h1 h2 => (hz8 y h1 h2).trans (hrs9 y h1 h2)) x h1 h2]; exact markJ_back x
                      have htr3 : TRY m_59 3 tl tc ta := (try_dn (u := 3) htr8).of ⟨funext fun j => h_60.1 71 j (by decide), funext fun j => h_60.1 72 j (by decide), funext fun j => h_60.1 73 j (by decide)⟩
                      have hst3 : SKST m_59 (FF c (foldC FF c.toNat S)) := by rw [hFFa]; exact hst8.of (fun a j q1 _ _ _ => h_60.1 a j q1)
                      refine jblk hF [(.iinc 6 1, 3)] (by decide +kernel) (pc' := 268) (lo' := [(6, (0, c + 1)), (7, (0, (m2 35 58) + 1)), (0, (2, 35)), (1, (0, i)), (2, (0, used)), (3, (0, k)), (4, (1, mem 70 k))]) (st' := []) rfl ?_
                      refine jgoto hF (off := (-110)) 158 (by decide +kernel) (by decide) ?_
                      refine jsub [2, 3, 4, 5, 6, 0] rfl ?_
                      refine ih_42 (c + 1) m_59 ?_ ?_ ?_ ?_ ?_ ?_ ?_ ?_
                      · omega
                      · assumption
                      · exact hfs3
                      · exact hz3
                      · exact htr3
                      · rw [foldC_s (by omega)]; exact hst3
                      · rw [foldC_s (by omega), hFFa]; exact hSBF _ _ _ _ _ _ hsb2
                      · omega
              refine jsub [2, 3, 4, 5, 1, 0] rfl ?_
              refine L_43 _ 0 mem ?_ ?_ ?_ ?_ ?_ ?_ ?_ (Nat.lt_succ_self _)
              · omega
              · exact hR
              · exact FS.rf
              · exact hrs
              · exact htr
              · exact hst
              · exact hsb
            · refine jvret hF hr (by decide +kernel) ?_
              exact lMV ⟨hR, by exfalso; omega⟩
          · refine jblk hF [(.aload_n 0, 1)] (by decide +kernel) (pc' := 36) (lo' := [(0, (2, 35)), (1, (0, i)), (2, (0, used)), (3, (0, k))]) (st' := [(2, 35)]) rfl ?_
            refine jget hF 13 55 0 55 rfl (by decide) (by decide) rfl wd_1518 (by decide +kernel) (by exact hS.k35) ?_
            refine jblk hF [(.iconst (-1), 1)] (by decide +kernel) (pc' := 40) (lo' := [(0, (2, 35)), (1, (0, i)), (2, (0, used)), (3, (0, k))]) (st' := [(0, (-1)), (0, mem 35 55)]) rfl ?_
            refine jicmp_eq hF (off := 11) 51 (by decide +kernel) (by decide) (by omega) (by decide) (fun h_61 => ?_) (fun h_61 => ?_)
            · have hkN : k = mem 35 57 := by omega
              refine jblk hF [(.aload_n 0, 1), (.iload_n 2, 1)] (by decide +kernel) (pc' := 53) (lo' := [(0, (2, 35)), (1, (0, i)), (2, (0, used)), (3, (0, k))]) (st' := [(0, used), (2, 35)]) rfl ?_
              refine jput hF 13 55 0 55 rfl (by decide) (by decide) rfl wd_1518 (by decide +kernel) rfl (Or.inl rfl) (by exact hS.k35) (fun h => by cases h) ?_
              refine jblk hF [(.aload_n 0, 1), (.iconst 0, 1)] (by decide +kernel) (pc' := 58) (lo' := [(0, (2, 35)), (1, (0, i)), (2, (0, used)), (3, (0, k))]) (st' := [(0, 0), (2, 35)]) rfl ?_
              refine jput hF 13 56 0 56 rfl (by decide) (by decide) rfl wd_1519 (by decide +kernel) rfl (Or.inl rfl) (by exact hS.k35) (fun h => by cases h) ?_
              refine jblk hF [(.iconst 0, 1), (.istore 4, 2)] (by decide +kernel) (pc' := 64) (lo' := [(4, (0, 0)), (0, (2, 35)), (1, (0, i)), (2, (0, used)), (3, (0, k))]) (st' := []) rfl ?_
              have L_63 : ∀ (fu_64 : Nat) (j : Int) (m1 : Int → Int → Int), (0 ≤ j ∧ j ≤ 3) → (SR m1) → (FS mem m1) → (m1 70 = mem 70 ∧ m1 71 = mem 71 ∧ m1 72 = mem 72 ∧ m1 73 = mem 73) → (m1 35 55 = used ∧ m1 35 56 = 0) → (m1 74 = cpN j tl S.2.2.1 ∧ m1 75 = cpN j tc S.2.2.2.1 ∧ m1 76 = cpN j ta S.2.2.2.2) →  (4 - j).toNat < fu_64 → J z g 8 0 0 (QM z g 0 0 (pMV (fun mem' => SR mem' ∧ (FS mem mem' ∧ (∀ x : Int, 0 ≤ x → x < mem 35 57 → mem' 70 x = mem 70 x) ∧ TRY mem' 3 tl tc ta ∧ SKST mem' (seekF (mem 35 57) (mem 35 58) (mem 35 59) 1 rs i tl tc ta S))) kd ln sz)) 64 [(0, (2, 35)), (1, (0, i)), (2, (0, used)), (3, (0, k)), (4, (0, j))] [] kd ln m1 sz := by
                intro fu_64
                induction fu_64 with
                | zero => intro j m1 _ _ _ _ _ _ hm; omega
                | succ fu_64 ih_62 =>
                  intro j m1 hj hR_m1 hfs hz70 hz55 hz74 hm1
                  refine jblk hF [(.iload 4, 2), (.iload_n 2, 1)] (by decide +kernel) (pc' := 67) (lo' := [(0, (2, 35)), (1, (0, i)), (2, (0, used)), (3, (0, k)), (4, (0, j))]) (st' := [(0, used), (0, j)]) rfl ?_
                  refine jicmp_ge hF (off := 51) 118 (by decide +kernel) (by decide) (by omega) (by omega) (fun h_65 => ?_) (fun h_65 => ?_)
                  · refine jblk hF [(.aload_n 0, 1), (.dup, 1)] (by decide +kernel) (pc' := 120) (lo' := [(0, (2, 35)), (1, (0, i)), (2, (0, used)), (3, (0, k)), (4, (0, j))]) (st' := [(2, 35), (2, 35)]) rfl ?_
                    refine jget hF 13 56 0 56 rfl (by decide) (by decide) rfl wd_1519 (by decide +kernel) (by exact hS.k35) ?_
                    refine jblk hF [(.iload_n 2, 1), (.aload_n 0, 1)] (by decide +kernel) (pc' := 125) (lo' := [(0, (2, 35)), (1, (0, i)), (2, (0, used)), (3, (0, k)), (4, (0, j))]) (st' := [(2, 35), (0, used), (0, m1 35 56), (2, 35)]) rfl ?_
                    refine jget hF 13 55 0 55 rfl (by decide) (by decide) rfl wd_1518 (by decide +kernel) (by exact hS.k35) ?_
                    refine jicmp_ne hF (off := 7) 135 (by decide +kernel) (by decide) (by omega) (by omega) (fun h_66 => ?_) (fun h_66 => ?_)
                    · refine jblk hF [(.iconst 0, 1), (.iadd, 1)] (by decide +kernel) (pc' := 137) (lo' := [(0, (2, 35)), (1, (0, i)), (2, (0, used)), (3, (0, k)), (4, (0, j))]) (st' := [(0, (m1 35 56) + 0), (2, 35)]) rfl ?_
                      refine jput hF 13 56 0 56 rfl (by decide) (by decide) rfl wd_1519 (by decide +kernel) rfl (Or.inl rfl) (by exact hS.k35) (fun h => by cases h) ?_
                      refine jvret hF hr (by decide +kernel) ?_
                      exact lMV ⟨(SR.s hR_m1 (Or.inr (by decide))), by have hkN : k = mem 35 57 := (by omega); have hsT : skipN rs i (mem 35 57 - i).toNat = mem 35 57 := (by rw [hsk, hkN]; exact skip_n); rw [seekT (u := 3) (by decide) hsT]; first | exact ⟨hfs.tr (FS.p _ (by decide)), fun x _ _ => congrFun hz70.1 x, htr.of ⟨hz70.2.1, hz70.2.2.1, hz70.2.2.2⟩, fin_new (by omega) (by rw [hz55.1]; exact hu) (by rw [show (3 : Int) = j by omega]; exact hz74) (by omega)⟩ | exact ⟨FS.p _ (by decide), fun x _ _ => rfl, htr, fin_keep (by omega) hst (by first | (rw [if_pos (by omega)]; omega) | (rw [if_neg (by omega)]; omega))⟩ | (exfalso; omega)⟩
                    · refine jblk hF [(.iconst 1, 1)] (by decide +kernel) (pc' := 132) (lo' := [(0, (2, 35)), (1, (0, i)), (2, (0, used)), (3, (0, k)), (4, (0, j))]) (st' := [(0, 1), (0, m1 35 56), (2, 35)]) rfl ?_
                      refine jgoto hF (off := 4) 136 (by decide +kernel) (by decide) ?_
                      refine jblk hF [(.iadd, 1)] (by decide +kernel) (pc' := 137) (lo' := [(0, (2, 35)), (1, (0, i)), (2, (0, used)), (3, (0, k)), (4, (0, j))]) (st' := [(0, (m1 35 56) + 1), (2, 35)]) rfl ?_
                      refine jput hF 13 56 0 56 rfl (by decide) (by decide) rfl wd_1519 (by decide +kernel) rfl (Or.inl rfl) (by exact hS.k35) (fun h => by cases h) ?_
                      refine jvret hF hr (by decide +kernel) ?_
                      exact lMV ⟨(SR.s hR_m1 (Or.inr (by decide))), by have hkN : k = mem 35 57 := (by omega); have hsT : skipN rs i (mem 35 57 - i).toNat = mem 35 57 := (by rw [hsk, hkN]; exact skip_n); rw [seekT (u := 3) (by decide) hsT]; first | exact ⟨hfs.tr (FS.p _ (by decide)), fun x _ _ => congrFun hz70.1 x, htr.of ⟨hz70.2.1, hz70.2.2.1, hz70.2.2.2⟩, fin_new (by omega) (by rw [hz55.1]; exact hu) (by rw [show (3 : Int) = j by omega]; exact hz74) (by omega)⟩ | exact ⟨FS.p _ (by decide), fun x _ _ => rfl, htr, fin_keep (by omega) hst (by first | (rw [if_pos (by omega)]; omega) | (rw [if_neg (by omega)]; omega))⟩ | (exfalso; omega)⟩
                  · refine jblk hF [(.aload_n 0, 1)] (by decide +kernel) (pc' := 71) (lo' := [(0, (2, 35)), (1, (0, i)), (2, (0, used)), (3, (0, k)), (4, (0, j))]) (st' := [(2, 35)]) rfl ?_
                    refine jget hF 13 52 2 52 rfl (by decide) (by decide) rfl wd_1515 (by decide +kernel) (by exact hS.k35) ?_
                    rw [SR.r52 hR_m1]
                    refine jblk hF [(.iload 4, 2), (.aload_n 0, 1)] (by decide +kernel) (pc' := 77) (lo' := [(0, (2, 35)), (1, (0, i)), (2, (0, used)), (3, (0, k)), (4, (0, j))]) (st' := [(2, 35), (0, j), (2, 74)]) rfl ?_
                    refine jget hF 13 49 2 49 rfl (by decide) (by decide) rfl wd_1512 (by decide +kernel) (by exact hS.k35) ?_
                    rw [SR.r49 hR_m1]
                    refine jblk hF [(.iload 4, 2)] (by decide +kernel) (pc' := 82) (lo' := [(0, (2, 35)), (1, (0, i)), (2, (0, used)), (3, (0, k)), (4, (0, j))]) (st' := [(0, j), (2, 71), (0, j), (2, 74)]) rfl ?_
                    refine jiald hF (by decide +kernel) (by exact hS.k71) (by omega) (by have := hS.l71; omega) ?_
                    refine jiast hF (by decide +kernel) (by decide) (by exact hS.k74) (by omega) (by have := hS.l74; omega) ?_
                    refine jblk hF [(.aload_n 0, 1)] (by decide +kernel) (pc' := 85) (lo' := [(0, (2, 35)), (1, (0, i)), (2, (0, used)), (3, (0, k)), (4, (0, j))]) (st' := [(2, 35)]) rfl ?_
                    refine jget hF 13 53 2 53 rfl (by decide) (by decide) rfl wd_1516 (by decide +kernel) (by exact hS.k35) ?_
                    rw [SR.r53 (SR.s hR_m1 (Or.inl (by decide)))]
                    refine jblk hF [(.iload 4, 2), (.aload_n 0, 1)] (by decide +kernel) (pc' := 91) (lo' := [(0, (2, 35)), (1, (0, i)), (2, (0, used)), (3, (0, k)), (4, (0, j))]) (st' := [(2, 35), (0, j), (2, 75)]) rfl ?_
                    refine jget hF 13 50 2 50 rfl (by decide) (by decide) rfl wd_1513 (by decide +kernel) (by exact hS.k35) ?_
                    rw [SR.r50 (SR.s hR_m1 (Or.inl (by decide)))]
                    refine jblk hF [(.iload 4, 2)] (by decide +kernel) (pc' := 96) (lo' := [(0, (2, 35)), (1, (0, i)), (2, (0, used)), (3, (0, k)), (4, (0, j))]) (st' := [(0, j), (2, 72), (0, j), (2, 75)]) rfl ?_
                    refine jiald hF (by decide +kernel) (by exact hS.k72) (by omega) (by have := hS.l72; omega) ?_
                    rw [show (set2 m1 74 j (m1 71 j)) 72 j = m1 72 j from (s2_a (by decide))]
                    refine jiast hF (by decide +kernel) (by decide) (by exact hS.k75) (by omega) (by have := hS.l75; omega) ?_
                    refine jblk hF [(.aload_n 0, 1)] (by decide +kernel) (pc' := 99) (lo' := [(0, (2, 35)), (1, (0, i)), (2, (0, used)), (3, (0, k)), (4, (0, j))]) (st' := [(2, 35)]) rfl ?_
                    refine jget hF 13 54 2 54 rfl (by decide) (by decide) rfl wd_1517 (by decide +kernel) (by exact hS.k35) ?_
                    rw [SR.r54 (SR.s (SR.s hR_m1 (Or.inl (by decide))) (Or.inl (by decide)))]
                    refine jblk hF [(.iload 4, 2), (.aload_n 0, 1)] (by decide +kernel) (pc' := 105) (lo' := [(0, (2, 35)), (1, (0, i)), (2, (0, used)), (3, (0, k)), (4, (0, j))]) (st' := [(2, 35), (0, j), (2, 76)]) rfl ?_
                    refine jget hF 13 51 2 51 rfl (by decide) (by decide) rfl wd_1514 (by decide +kernel) (by exact hS.k35) ?_
                    rw [SR.r51 (SR.s (SR.s hR_m1 (Or.inl (by decide))) (Or.inl (by decide)))]
                    refine jblk hF [(.iload 4, 2)] (by decide +kernel) (pc' := 110) (lo' := [(0, (2, 35)), (1, (0, i)), (2, (0, used)), (3, (0, k)), (4, (0, j))]) (st' := [(0, j), (2, 73), (0, j), (2, 76)]) rfl ?_
                    refine jlald hF (by decide +kernel) (by exact hS.k73) (by omega) (by have := hS.l73; omega) ?_
                    rw [show (set2 (set2 m1 74 j (m1 71 j)) 75 j (m1 72 j)) 73 j = m1 73 j from ((s2_a (by decide)).trans (s2_a (by decide)))]
                    refine jlast hF (by decide +kernel) (by decide) (by exact hS.k76) (by omega) (by have := hS.l76; omega) ?_
                    refine jblk hF [(.iinc 4 1, 3)] (by decide +kernel) (pc' := 115) (lo' := [(4, (0, j + 1)), (0, (2, 35)), (1, (0, i)), (2, (0, used)), (3, (0, k))]) (st' := []) rfl ?_
                    refine jgoto hF (off := (-51)) 64 (by decide +kernel) (by decide) ?_
                    refine jsub [1, 2, 3, 4, 0] rfl ?_
                    refine ih_62 (j + 1) (set2 (set2 (set2 m1 74 j (m1 71 j)) 75 j (m1 72 j)) 76 j (m1 73 j)) ?_ ?_ ?_ ?_ ?_ ?_ ?_
                    · omega
                    · exact ((hR_m1.s (Or.inl (by decide))).s (Or.inl (by decide))).s (Or.inl (by decide))
                    · exact ((hfs.tr (FS.s _ _ (by decide))).tr (FS.s _ _ (by decide))).tr (FS.s _ _ (by decide))
                    · exact ⟨hz70.1, hz70.2.1, hz70.2.2.1, hz70.2.2.2⟩
                    · exact hz55
                    · have h9 := htr j (by omega) (by omega); exact cp3 (by omega) hz74 ⟨by rw [hz70.2.1]; exact h9.1, by rw [hz70.2.2.1]; exact h9.2.1, by rw [hz70.2.2.2]; exact h9.2.2⟩
                    · omega
              refine jsub [1, 2, 3, 4, 0] rfl ?_
              refine L_63 _ 0 (set2 (set2 mem 35 55 used) 35 56 0) ?_ ?_ ?_ ?_ ?_ ?_ (Nat.lt_succ_self _)
              · omega
              · exact (hR.s (Or.inr (by decide))).s (Or.inr (by decide))
              · exact (FS.p _ (by decide)).tr (FS.p _ (by decide))
              · exact ⟨rfl, rfl, rfl, rfl⟩
              · exact ⟨by rw [s2_k (by decide), s2_s], by rw [s2_s]⟩
              · exact ⟨cpN_0 hst.2.2.1, cpN_0 hst.2.2.2.1, cpN_0 hst.2.2.2.2⟩
            · refine jblk hF [(.iload_n 2, 1), (.aload_n 0, 1)] (by decide +kernel) (pc' := 45) (lo' := [(0, (2, 35)), (1, (0, i)), (2, (0, used)), (3, (0, k))]) (st' := [(2, 35), (0, used)]) rfl ?_
              refine jget hF 13 55 0 55 rfl (by decide) (by decide) rfl wd_1518 (by decide +kernel) (by exact hS.k35) ?_
              refine jicmp_ge hF (off := 70) 118 (by decide +kernel) (by decide) (by omega) (by omega) (fun h_67 => ?_) (fun h_67 => ?_)
              · refine jblk hF [(.aload_n 0, 1), (.dup, 1)] (by decide +kernel) (pc' := 120) (lo' := [(0, (2, 35)), (1, (0, i)), (2, (0, used)), (3, (0, k))]) (st' := [(2, 35), (2, 35)]) rfl ?_
                refine jget hF 13 56 0 56 rfl (by decide) (by decide) rfl wd_1519 (by decide +kernel) (by exact hS.k35) ?_
                refine jblk hF [(.iload_n 2, 1), (.aload_n 0, 1)] (by decide +kernel) (pc' := 125) (lo' := [(0, (2, 35)), (1, (0, i)), (2, (0, used)), (3, (0, k))]) (st' := [(2, 35), (0, used), (0, mem 35 56), (2, 35)]) rfl ?_
                refine jget hF 13 55 0 55 rfl (by decide) (by decide) rfl wd_1518 (by decide +kernel) (by exact hS.k35) ?_
                refine jicmp_ne hF (off := 7) 135 (by decide +kernel) (by decide) (by omega) (by omega) (fun h_68 => ?_) (fun h_68 => ?_)
                · refine jblk hF [(.iconst 0, 1), (.iadd, 1)] (by decide +kernel) (pc' := 137) (lo' := [(0, (2, 35)), (1, (0, i)), (2, (0, used)), (3, (0, k))]) (st' := [(0, (mem 35 56) + 0), (2, 35)]) rfl ?_
                  refine jput hF 13 56 0 56 rfl (by decide) (by decide) rfl wd_1519 (by decide +kernel) rfl (Or.inl rfl) (by exact hS.k35) (fun h => by cases h) ?_
                  refine jvret hF hr (by decide +kernel) ?_
                  exact lMV ⟨(SR.s hR (Or.inr (by decide))), by have hkN : k = mem 35 57 := (by omega); have hsT : skipN rs i (mem 35 57 - i).toNat = mem 35 57 := (by rw [hsk, hkN]; exact skip_n); rw [seekT (u := 3) (by decide) hsT]; first | exact ⟨hfs.tr (FS.p _ (by decide)), fun x _ _ => congrFun hz70.1 x, htr.of ⟨hz70.2.1, hz70.2.2.1, hz70.2.2.2⟩, fin_new (by omega) (by rw [hz55.1]; exact hu) (by rw [show (3 : Int) = j by omega]; exact hz74) (by omega)⟩ | exact ⟨FS.p _ (by decide), fun x _ _ => rfl, htr, fin_keep (by omega) hst (by first | (rw [if_pos (by omega)]; omega) | (rw [if_neg (by omega)]; omega))⟩ | (exfalso; omega)⟩
                · refine jblk hF [(.iconst 1, 1)] (by decide +kernel) (pc' := 132) (lo' := [(0, (2, 35)), (1, (0, i)), (2, (0, used)), (3, (0, k))]) (st' := [(0, 1), (0, mem 35 56), (2, 35)]) rfl ?_
                  refine jgoto hF (off := 4) 136 (by decide +kernel) (by decide) ?_
                  refine jblk hF [(.iadd, 1)] (by decide +kernel) (pc' := 137) (lo' := [(0, (2, 35)), (1, (0, i)), (2, (0, used)), (3, (0, k))]) (st' := [(0, (mem 35 56) + 1), (2, 35)]) rfl ?_
                  refine jput hF 13 56 0 56 rfl (by decide) (by decide) rfl wd_1519 (by decide +kernel) rfl (Or.inl rfl) (by exact hS.k35) (fun h => by cases h) ?_
                  refine jvret hF hr (by decide +kernel) ?_
                  exact lMV ⟨(SR.s hR (Or.inr (by decide))), by have hkN : k = mem 35 57 := (by omega); have hsT : skipN rs i (mem 35 57 - i).toNat = mem 35 57 := (by rw [hsk, hkN]; exact skip_n); rw [seekT (u := 3) (by decide) hsT]; first | exact ⟨hfs.tr (FS.p _ (by decide)), fun x _ _ => congrFun hz70.1 x, htr.of ⟨hz70.2.1, hz70.2.2.1, hz70.2.2.2⟩, fin_new (by omega) (by rw [hz55.1]; exact hu) (by rw [show (3 : Int) = j by omega]; exact hz74) (by omega)⟩ | exact ⟨FS.p _ (by decide), fun x _ _ => rfl, htr, fin_keep (by omega) hst (by first | (rw [if_pos (by omega)]; omega) | (rw [if_neg (by omega)]; omega))⟩ | (exfalso; omega)⟩
              · have hkN : k = mem 35 57 := by omega
                refine jblk hF [(.aload_n 0, 1), (.iload_n 2, 1)] (by decide +kernel) (pc' := 53) (lo' := [(0, (2, 35)), (1, (0, i)), (2, (0, used)), (3, (0, k))]) (st' := [(0, used), (2, 35)]) rfl ?_
                refine jput hF 13 55 0 55 rfl (by decide) (by decide) rfl wd_1518 (by decide +kernel) rfl (Or.inl rfl) (by exact hS.k35) (fun h => by cases h) ?_
                refine jblk hF [(.aload_n 0, 1), (.iconst 0, 1)] (by decide +kernel) (pc' := 58) (lo' := [(0, (2, 35)), (1, (0, i)), (2, (0, used)), (3, (0, k))]) (st' := [(0, 0), (2, 35)]) rfl ?_
                refine jput hF 13 56 0 56 rfl (by decide) (by decide) rfl wd_1519 (by decide +kernel) rfl (Or.inl rfl) (by exact hS.k35) (fun h => by cases h) ?_
                refine jblk hF [(.iconst 0, 1), (.istore 4, 2)] (by decide +kernel) (pc' := 64) (lo' := [(4, (0, 0)), (0, (2, 35)), (1, (0, i)), (2, (0, used)), (3, (0, k))]) (st' := []) rfl ?_
                have L_70 : ∀ (fu_71 : Nat) (j : Int) (m1 : Int → Int → Int), (0 ≤ j ∧ j ≤ 3) → (SR m1) → (FS mem m1) → (m1 70 = mem 70 ∧ m1 71 = mem 71 ∧ m1 72 = mem 72 ∧ m1 73 = mem 73) → (m1 35 55 = used ∧ m1 35 56 = 0) → (m1 74 = cpN j tl S.2.2.1 ∧ m1 75 = cpN j tc S.2.2.2.1 ∧ m1 76 = cpN j ta S.2.2.2.2) →  (4 - j).toNat < fu_71 → J z g 8 0 0 (QM z g 0 0 (pMV (fun mem' => SR mem' ∧ (FS mem mem' ∧ (∀ x : Int, 0 ≤ x → x < mem 35 57 → mem' 70 x = mem 70 x) ∧ TRY mem' 3 tl tc ta ∧ SKST mem' (seekF (mem 35 57) (mem 35 58) (mem 35 59) 1 rs i tl tc ta S))) kd ln sz)) 64 [(0, (2, 35)), (1, (0, i)), (2, (0, used)), (3, (0, k)), (4, (0, j))] [] kd ln m1 sz := by
                  intro fu_71
                  induction fu_71 with
                  | zero => intro j m1 _ _ _ _ _ _ hm; omega
                  | succ fu_71 ih_69 =>
                    intro j m1 hj hR_m1 hfs hz70 hz55 hz74 hm1
                    refine jblk hF [(.iload 4, 2), (.iload_n 2, 1)] (by decide +kernel) (pc' := 67) (lo' := [(0, (2, 35)), (1, (0, i)), (2, (0, used)), (3, (0, k)), (4, (0, j))]) (st' := [(0, used), (0, j)]) rfl ?_
                    refine jicmp_ge hF (off := 51) 118 (by decide +kernel) (by decide) (by omega) (by omega) (fun h_72 => ?_) (fun h_72 => ?_)
                    · refine jblk hF [(.aload_n 0, 1), (.dup, 1)] (by decide +kernel) (pc' := 120) (lo' := [(0, (2, 35)), (1, (0, i)), (2, (0, used)), (3, (0, k)), (4, (0, j))]) (st' := [(2, 35), (2, 35)]) rfl ?_
                      refine jget hF 13 56 0 56 rfl (by decide) (by decide) rfl wd_1519 (by decide +kernel) (by exact hS.k35) ?_
                      refine jblk hF [(.iload_n 2, 1), (.aload_n 0, 1)] (by decide +kernel) (pc' := 125) (lo' := [(0, (2, 35)), (1, (0, i)), (2, (0, used)), (3, (0, k)), (4, (0, j))]) (st' := [(2, 35), (0, used), (0, m1 35 56), (2, 35)]) rfl ?_
                      refine jget hF 13 55 0 55 rfl (by decide) (by decide) rfl wd_1518 (by decide +kernel) (by exact hS.k35) ?_
                      refine jicmp_ne hF (off := 7) 135 (by decide +kernel) (by decide) (by omega) (by omega) (fun h_73 => ?_) (fun h_73 => ?_)
                      · refine jblk hF [(.iconst 0, 1), (.iadd, 1)] (by decide +kernel) (pc' := 137) (lo' := [(0, (2, 35)), (1, (0, i)), (2, (0, used)), (3, (0, k)), (4, (0, j))]) (st' := [(0, (m1 35 56) + 0), (2, 35)]) rfl ?_
                        refine jput hF 13 56 0 56 rfl (by decide) (by decide) rfl wd_1519 (by decide +kernel) rfl (Or.inl rfl) (by exact hS.k35) (fun h => by cases h) ?_
                        refine jvret hF hr (by decide +kernel) ?_
                        exact lMV ⟨(SR.s hR_m1 (Or.inr (by decide))), by have hkN : k = mem 35 57 := (by omega); have hsT : skipN rs i (mem 35 57 - i).toNat = mem 35 57 := (by rw [hsk, hkN]; exact skip_n); rw [seekT (u := 3) (by decide) hsT]; first | exact ⟨hfs.tr (FS.p _ (by decide)), fun x _ _ => congrFun hz70.1 x, htr.of ⟨hz70.2.1, hz70.2.2.1, hz70.2.2.2⟩, fin_new (by omega) (by rw [hz55.1]; exact hu) (by rw [show (3 : Int) = j by omega]; exact hz74) (by omega)⟩ | exact ⟨FS.p _ (by decide), fun x _ _ => rfl, htr, fin_keep (by omega) hst (by first | (rw [if_pos (by omega)]; omega) | (rw [if_neg (by omega)]; omega))⟩ | (exfalso; omega)⟩
                      · refine jblk hF [(.iconst 1, 1)] (by decide +kernel) (pc' := 132) (lo' := [(0, (2, 35)), (1, (0, i)), (2, (0, used)), (3, (0, k)), (4, (0, j))]) (st' := [(0, 1), (0, m1 35 56), (2, 35)]) rfl ?_
                        refine jgoto hF (off := 4) 136 (by decide +kernel) (by decide) ?_
                        refine jblk hF [(.iadd, 1)] (by decide +kernel) (pc' := 137) (lo' := [(0, (2, 35)), (1, (0, i)), (2, (0, used)), (3, (0, k)), (4, (0, j))]) (st' := [(0, (m1 35 56) + 1), (2, 35)]) rfl ?_
                        refine jput hF 13 56 0 56 rfl (by decide) (by decide) rfl wd_1519 (by decide +kernel) rfl (Or.inl rfl) (by exact hS.k35) (fun h => by cases h) ?_
                        refine jvret hF hr (by decide +kernel) ?_
                        exact lMV ⟨(SR.s hR_m1 (Or.inr (by decide))), by have hkN : k = mem 35 57 := (by omega); have hsT : skipN rs i (mem 35 57 - i).toNat = mem 35 57 := (by rw [hsk, hkN]; exact skip_n); rw [seekT (u := 3) (by decide) hsT]; first | exact ⟨hfs.tr (FS.p _ (by decide)), fun x _ _ => congrFun hz70.1 x, htr.of ⟨hz70.2.1, hz70.2.2.1, hz70.2.2.2⟩, fin_new (by omega) (by rw [hz55.1]; exact hu) (by rw [show (3 : Int) = j by omega]; exact hz74) (by omega)⟩ | exact ⟨FS.p _ (by decide), fun x _ _ => rfl, htr, fin_keep (by omega) hst (by first | (rw [if_pos (by omega)]; omega) | (rw [if_neg (by omega)]; omega))⟩ | (exfalso; omega)⟩
                    · refine jblk hF [(.aload_n 0, 1)] (by decide +kernel) (pc' := 71) (lo' := [(0, (2, 35)), (1, (0, i)), (2, (0, used)), (3, (0, k)), (4, (0, j))]) (st' := [(2, 35)]) rfl ?_
                      refine jget hF 13 52 2 52 rfl (by decide) (by decide) rfl wd_1515 (by decide +kernel) (by exact hS.k35) ?_
                      rw [SR.r52 hR_m1]
                      refine jblk hF [(.iload 4, 2), (.aload_n 0, 1)] (by decide +kernel) (pc' := 77) (lo' := [(0, (2, 35)), (1, (0, i)), (2, (0, used)), (3, (0, k)), (4, (0, j))]) (st' := [(2, 35), (0, j), (2, 74)]) rfl ?_
                      refine jget hF 13 49 2 49 rfl (by decide) (by decide) rfl wd_1512 (by decide +kernel) (by exact hS.k35) ?_
                      rw [SR.r49 hR_m1]
                      refine jblk hF [(.iload 4, 2)] (by decide +kernel) (pc' := 82) (lo' := [(0, (2, 35)), (1, (0, i)), (2, (0, used)), (3, (0, k)), (4, (0, j))]) (st' := [(0, j), (2, 71), (0, j), (2, 74)]) rfl ?_
                      refine jiald hF (by decide +kernel) (by exact hS.k71) (by omega) (by have := hS.l71; omega) ?_
                      refine jiast hF (by decide +kernel) (by decide) (by exact hS.k74) (by omega) (by have := hS.l74; omega) ?_
                      refine jblk hF [(.aload_n 0, 1)] (by decide +kernel) (pc' := 85) (lo' := [(0, (2, 35)), (1, (0, i)), (2, (0, used)), (3, (0, k)), (4, (0, j))]) (st' := [(2, 35)]) rfl ?_
                      refine jget hF 13 53 2 53 rfl (by decide) (by decide) rfl wd_1516 (by decide +kernel) (by exact hS.k35) ?_
                      rw [SR.r53 (SR.s hR_m1 (Or.inl (by decide)))]
                      refine jblk hF [(.iload 4, 2), (.aload_n 0, 1)] (by decide +kernel) (pc' := 91) (lo' := [(0, (2, 35)), (1, (0, i)), (2, (0, used)), (3, (0, k)), (4, (0, j))]) (st' := [(2, 35), (0, j), (2, 75)]) rfl ?_
                      refine jget hF 13 50 2 50 rfl (by decide) (by decide) rfl wd_1513 (by decide +kernel) (by exact hS.k35) ?_
                      rw [SR.r50 (SR.s hR_m1 (Or.inl (by decide)))]
                      refine jblk hF [(.iload 4, 2)] (by decide +kernel) (pc' := 96) (lo' := [(0, (2, 35)), (1, (0, i)), (2, (0, used)), (3, (0, k)), (4, (0, j))]) (st' := [(0, j), (2, 72), (0, j), (2, 75)]) rfl ?_
                      refine jiald hF (by decide +kernel) (by exact hS.k72) (by omega) (by have := hS.l72; omega) ?_
                      rw [show (set2 m1 74 j (m1 71 j)) 72 j = m1 72 j from (s2_a (by decide))]
                      refine jiast hF (by decide +kernel) (by decide) (by exact hS.k75) (by omega) (by have := hS.l75; omega) ?_
                      refine jblk hF [(.aload_n 0, 1)] (by decide +kernel) (pc' := 99) (lo' := [(0, (2, 35)), (1, (0, i)), (2, (0, used)), (3, (0, k)), (4, (0, j))]) (st' := [(2, 35)]) rfl ?_
                      refine jget hF 13 54 2 54 rfl (by decide) (by decide) rfl wd_1517 (by decide +kernel) (by exact hS.k35) ?_
                      rw [SR.r54 (SR.s (SR.s hR_m1 (Or.inl (by decide))) (Or.inl (by decide)))]
                      refine jblk hF [(.iload 4, 2), (.aload_n 0, 1)] (by decide +kernel) (pc' := 105) (lo' := [(0, (2, 35)), (1, (0, i)), (2, (0, used)), (3, (0, k)), (4, (0, j))]) (st' := [(2, 35), (0, j), (2, 76)]) rfl ?_
                      refine jget hF 13 51 2 51 rfl (by decide) (by decide) rfl wd_1514 (by decide +kernel) (by exact hS.k35) ?_
                      rw [SR.r51 (SR.s (SR.s hR_m1 (Or.inl (by decide))) (Or.inl (by decide)))]
                      refine jblk hF [(.iload 4, 2)] (by decide +kernel) (pc' := 110) (lo' := [(0, (2, 35)), (1, (0, i)), (2, (0, used)), (3, (0, k)), (4, (0, j))]) (st' := [(0, j), (2, 73), (0, j), (2, 76)]) rfl ?_
                      refine jlald hF (by decide +kernel) (by exact hS.k73) (by omega) (by have := hS.l73; omega) ?_
                      rw [show (set2 (set2 m1 74 j (m1 71 j)) 75 j (m1 72 j)) 73 j = m1 73 j from ((s2_a (by decide)).trans (s2_a (by decide)))]
                      refine jlast hF (by decide +kernel) (by decide) (by exact hS.k76) (by omega) (by have := hS.l76; omega) ?_
                      refine jblk hF [(.iinc 4 1, 3)] (by decide +kernel) (pc' := 115) (lo' := [(4, (0, j + 1)), (0, (2, 35)), (1, (0, i)), (2, (0, used)), (3, (0, k))]) (st' := []) rfl ?_
                      refine jgoto hF (off := (-51)) 64 (by decide +kernel) (by decide) ?_
                      refine jsub [1, 2, 3, 4, 0] rfl ?_
                      refine ih_69 (j + 1) (set2 (set2 (set2 m1 74 j (m1 71 j)) 75 j (m1 72 j)) 76 j (m1 73 j)) ?_ ?_ ?_ ?_ ?_ ?_ ?_
                      · omega
                      · exact ((hR_m1.s (Or.inl (by decide))).s (Or.inl (by decide))).s (Or.inl (by decide))
                      · exact ((hfs.tr (FS.s _ _ (by decide))).tr (FS.s _ _ (by decide))).tr (FS.s _ _ (by decide))
                      · exact ⟨hz70.1, hz70.2.1, hz70.2.2.1, hz70.2.2.2⟩
                      · exact hz55
                      · have h9 := htr j (by omega) (by omega); exact cp3 (by omega) hz74 ⟨by rw [hz70.2.1]; exact h9.1, by rw [hz70.2.2.1]; exact h9.2.1, by rw [hz70.2.2.2]; exact h9.2.2⟩
                      · omega
                refine jsub [1, 2, 3, 4, 0] rfl ?_
                refine L_70 _ 0 (set2 (set2 mem 35 55 used) 35 56 0) ?_ ?_ ?_ ?_ ?_ ?_ (Nat.lt_succ_self _)
                · omega
                · exact (hR.s (Or.inr (by decide))).s (Or.inr (by decide))
                · exact (FS.p _ (by decide)).tr (FS.p _ (by decide))
                · exact ⟨rfl, rfl, rfl, rfl⟩
                · exact ⟨by rw [s2_k (by decide), s2_s], by rw [s2_s]⟩
                · exact ⟨cpN_0 hst.2.2.1, cpN_0 hst.2.2.2.1, cpN_0 hst.2.2.2.2⟩
        · refine jblk hF [(.iinc 3 1, 3)] (by decide +kernel) (pc' := 24) (lo' := [(3, (0, k + 1)), (0, (2, 35)), (1, (0, i)), (2, (0, used))]) (st' := []) rfl ?_
          refine jgoto hF (off := (-22)) 2 (by decide +kernel) (by decide) ?_
          refine jsub [1, 2, 3, 0] rfl ?_
          refine ih_1 (k + 1) ?_ ?_ ?_
          · omega
          · rw [hsk]; have hrk2 := hrk (by omega); exact skip_s (by omega) (by rw [← hrk2]; first | assumption | omega)
          · omega
  refine jsub [1, 2, 3, 0] rfl ?_
  refine L_2 _ i ?_ ?_ (Nat.lt_succ_self _)
  · omega
  · rfl
set_option maxHeartbeats 4000000 in
set_option maxRecDepth 100000 in
theorem c_seek2 {l : Launch} {g : GP} (hG : GH g) {kd : Int → Nat} {ln : Int → Int} {mem : Int → Int → Int} {sz : Nat} (hS : SK kd ln) (hR : SR mem) (i used : Int) (rs : Int → Int) (tl : Int → Int) (tc : Int → Int) (ta : Int → Int) (S : ST) (hu : used = 2) (hi : 0 ≤ i ∧ i ≤ mem 35 57) (hN : 0 ≤ mem 35 57 ∧ mem 35 57 ≤ 40) (ho : 0 ≤ mem 35 58 ∧ mem 35 58 ≤ 4) (hh : 0 ≤ mem 35 59 ∧ mem 35 59 ≤ 40) (hrs : ∀ x : Int, 0 ≤ x → x < mem 35 57 → mem 70 x = rs x) (htr : TRY mem 2 tl tc ta) (hst : SKST mem S) (hsb : SB S) : MT l g yX12_seek cX12_seek 8 none 3 0 0 [(2, 35), (0, i), (0, used)] kd ln mem sz (pMV (fun mem' => SR mem' ∧ (FS mem mem' ∧ (∀ x : Int, 0 ≤ x → x < mem 35 57 → mem' 70 x = mem 70 x) ∧ TRY mem' 2 tl tc ta ∧ SKST mem' (seekF (mem 35 57) (mem 35 58) (mem 35 59) 2 rs i tl tc ta S))) kd ln sz) := by
  refine MT_of hG (by decide +kernel) (Nat.le_of_ble_eq_true rfl) (fun z hF hr hn => ?_)
  have hb1 := hsb.1
  have hb2 := hsb.2
  have h55 := hst.1
  have h56 := hst.2.1
  refine jblk hF [(.iload_n 1, 1), (.istore_n 3, 1)] (by decide +kernel) (pc' := 2) (lo' := [(3, (0, i)), (0, (2, 35)), (1, (0, i)), (2, (0, used))]) (st' := []) rfl ?_
  have L_2 : ∀ (fu_3 : Nat) (k : Int), (i ≤ k ∧ k ≤ mem 35 57) → (skipN rs i (mem 35 57 - i).toNat = skipN rs k (mem 35 57 - k).toNat) →  (mem 35 57 - k).toNat < fu_3 → J z g 8 0 0 (QM z g 0 0 (pMV (fun mem' => SR mem' ∧ (FS mem mem' ∧ (∀ x : Int, 0 ≤ x → x < mem 35 57 → mem' 70 x = mem 70 x) ∧ TRY mem' 2 tl tc ta ∧ SKST mem' (seekF (mem 35 57) (mem 35 58) (mem 35 59) 2 rs i tl tc ta S))) kd ln sz)) 2 [(0, (2, 35)), (1, (0, i)), (2, (0, used)), (3, (0, k))] [] kd ln mem sz := by
    intro fu_3
    induction fu_3 with
    | zero => intro k _ _ hm; omega
    | succ fu_3 ih_1 =>
      intro k hk hsk hm
      have hrk : k < mem 35 57 → mem 70 k = rs k := fun h => hrs k (by omega) h
      refine jblk hF [(.iload_n 3, 1), (.aload_n 0, 1)] (by decide +kernel) (pc' := 4) (lo' := [(0, (2, 35)), (1, (0, i)), (2, (0, used)), (3, (0, k))]) (st' := [(2, 35), (0, k)]) rfl ?_
      refine jget hF 13 57 0 57 rfl (by decide) (by decide) rfl wd_1520 (by decide +kernel) (by exact hS.k35) ?_
      refine jicmp_ge hF (off := 20) 27 (by decide +kernel) (by decide) (by omega) (by omega) (fun h_4 => ?_) (fun h_4 => ?_)
      · refine jblk hF [(.iload_n 3, 1), (.aload_n 0, 1)] (by decide +kernel) (pc' := 29) (lo' := [(0, (2, 35)), (1, (0, i)), (2, (0, used)), (3, (0, k))]) (st' := [(2, 35), (0, k)]) rfl ?_
        refine jget hF 13 57 0 57 rfl (by decide) (by decide) rfl wd_1520 (by decide +kernel) (by exact hS.k35) ?_
        refine jicmp_ne hF (off := 109) 141 (by decide +kernel) (by decide) (by omega) (by omega) (fun h_5 => ?_) (fun h_5 => ?_)
        · refine jblk hF [(.iload_n 2, 1), (.iconst 4, 1)] (by decide +kernel) (pc' := 143) (lo' := [(0, (2, 35)), (1, (0, i)), (2, (0, used)), (3, (0, k))]) (st' := [(0, 4), (0, used)]) rfl ?_
          refine jicmp_ne hF (off := 4) 147 (by decide +kernel) (by decide) (by omega) (by decide) (fun h_6 => ?_) (fun h_6 => ?_)
          · have hrk2 := hrk (by omega)
            have hske : skipN rs i (mem 35 57 - i).toNat = k := by rw [hsk]; exact skip_e (by omega) (by rw [← hrk2]; first | assumption | omega)
            obtain ⟨FF, hFF⟩ : ∃ FF : Int → ST → ST, FF = (fun c => seekF (mem 35 57) (mem 35 58) (mem 35 59) 1 (markJ (mem 35 57) rs k (tmC (mem 35 58) c) (-(rs k)) (tmC (mem 35 58) c + 1)) (k + 1) (upI tl 2 (mem 35 59 + k)) (upI tc 2 (coC (mem 35 58) c)) (upI ta 2 (rs k))) := ⟨_, rfl⟩
            have hFFa := fun (c9 : Int) (S9 : ST) => congrFun (congrFun hFF c9) S9
            have hSBF := fun (rs : Int → Int) (i : Int) (tl tc ta : Int → Int) (S : ST) (h : SB S) => (seekF_bd (N := mem 35 57) (o := mem 35 58) (h := mem 35 59) 1 (by decide) rs i tl tc ta S h).1
            refine jblk hF [(.aload_n 0, 1)] (by decide +kernel) (pc' := 148) (lo' := [(0, (2, 35)), (1, (0, i)), (2, (0, used)), (3, (0, k))]) (st' := [(2, 35)]) rfl ?_
            refine jget hF 13 48 2 48 rfl (by decide) (by decide) rfl wd_1511 (by decide +kernel) (by exact hS.k35) ?_
            rw [SR.r48 hR]
            refine jblk hF [(.iload_n 3, 1)] (by decide +kernel) (pc' := 152) (lo' := [(0, (2, 35)), (1, (0, i)), (2, (0, used)), (3, (0, k))]) (st' := [(0, k), (2, 70)]) rfl ?_
            refine jlald hF (by decide +kernel) (by exact hS.k70) (by omega) (by have := hS.l70; omega) ?_
            refine jblk hF [(.lstore 4, 2), (.iconst 0, 1), (.istore 6, 2)] (by decide +kernel) (pc' := 158) (lo' := [(6, (0, 0)), (4, (1, mem 70 k)), (0, (2, 35)), (1, (0, i)), (2, (0, used)), (3, (0, k))]) (st' := []) rfl ?_
            have L_8 : ∀ (fu_9 : Nat) (c : Int) (m2 : Int → Int → Int), (0 ≤ c ∧ c ≤ mem 35 58 + 1) → (SR m2) → (FS mem m2) → (∀ x : Int, 0 ≤ x → x < mem 35 57 → m2 70 x = rs x) → (TRY m2 2 tl tc ta) → (SKST m2 (foldC FF c.toNat S)) → (SB (foldC FF c.toNat S)) →  (mem 35 58 + 1 - c).toNat < fu_9 → J z g 8 0 0 (QM z g 0 0 (pMV (fun mem' => SR mem' ∧ (FS mem mem' ∧ (∀ x : Int, 0 ≤ x → x < mem 35 57 → mem' 70 x = mem 70 x) ∧ TRY mem' 2 tl tc ta ∧ SKST mem' (seekF (mem 35 57) (mem 35 58) (mem 35 59) 2 rs i tl tc ta S))) kd ln sz)) 158 [(0, (2, 35)), (1, (0, i)), (2, (0, used)), (3, (0, k)), (4, (1, mem 70 k)), (6, (0, c))] [] kd ln m2 sz := by
              intro fu_9
              induction fu_9 with
              | zero => intro c m2 _ _ _ _ _ _ _ hm; omega
              | succ fu_9 ih_7 =>
                intro c m2 hc hR_m2 hfs2 hz70b htr2 hst2 hsb2 hm2
                have f57 : m2 35 57 = mem 35 57 := hfs2 35 57 (by decide) (by decide) (by decide) (by decide) (by decide) (by decide) (by decide) (by decide)
                have f58 : m2 35 58 = mem 35 58 := hfs2 35 58 (by decide) (by decide) (by decide) (by decide) (by decide) (by decide) (by decide) (by decide)
                have f59 : m2 35 59 = mem 35 59 := hfs2 35 59 (by decide) (by decide) (by decide) (by decide) (by decide) (by decide) (by decide) (by decide)
                refine jblk hF [(.iload 6, 2), (.aload_n 0, 1)] (by decide +kernel) (pc' := 161) (lo' := [(0, (2, 35)), (1, (0, i)), (2, (0, used)), (3, (0, k)), (4, (1, mem 70 k)), (6, (0, c))]) (st' := [(2, 35), (0, c)]) rfl ?_
                refine jget hF 13 58 0 58 rfl (by decide) (by decide) rfl wd_1521 (by decide +kernel) (by exact hS.k35) ?_
                refine jicmp_gt hF (off := 107) 271 (by decide +kernel) (by decide) (by omega) (by omega) (fun h_10 => ?_) (fun h_10 => ?_)
                · refine jvret hF hr (by decide +kernel) ?_
                  exact lMV ⟨hR_m2, by exact ⟨hfs2, fun x h1 h2 => by rw [hz70b x h1 h2, hrs x h1 h2], htr2, by rw [show (2 : Nat) = 1 + 1 from rfl, seekL (u := 2) (by decide) hske (by omega), ← hFF, show (mem 35 58 + 1).toNat = c.toNat by omega]; exact hst2⟩⟩
                · refine jblk hF [(.iload 6, 2), (.aload_n 0, 1)] (by decide +kernel) (pc' := 170) (lo' := [(0, (2, 35)), (1, (0, i)), (2, (0, used)), (3, (0, k)), (4, (1, mem 70 k)), (6, (0, c))]) (st' := [(2, 35), (0, c)]) rfl ?_
                  refine jget hF 13 58 0 58 rfl (by decide) (by decide) rfl wd_1521 (by decide +kernel) (by exact hS.k35) ?_
                  refine jicmp_ne hF (off := 12) 185 (by decide +kernel) (by decide) (by omega) (by omega) (fun h_11 => ?_) (fun h_11 => ?_)
                  · refine jblk hF [(.aload_n 0, 1)] (by decide +kernel) (pc' := 186) (lo' := [(0, (2, 35)), (1, (0, i)), (2, (0, used)), (3, (0, k)), (4, (1, mem 70 k)), (6, (0, c))]) (st' := [(2, 35)]) rfl ?_
                    refine jget hF 13 58 0 58 rfl (by decide) (by decide) rfl wd_1521 (by decide +kernel) (by exact hS.k35) ?_
                    refine jblk hF [(.iload 6, 2), (.isub, 1), (.istore 7, 2)] (by decide +kernel) (pc' := 194) (lo' := [(7, (0, (m2 35 58) - c)), (0, (2, 35)), (1, (0, i)), (2, (0, used)), (3, (0, k)), (4, (1, mem 70 k)), (6, (0, c))]) (st' := []) rfl ?_
                    have hT : ((m2 35 58) - c) = tmC (mem 35 58) c := by unfold tmC; first | (rw [if_pos (by omega)]; omega) | (rw [if_neg (by omega)]; omega)
                    have hT5 : 0 ≤ tmC (mem 35 58) c ∧ tmC (mem 35 58) c ≤ 5 := by omega
                    refine jblk hF [(.aload_n 0, 1), (.iload_n 3, 1), (.iload 7, 2), (.lload 4, 2), (.lneg, 1)] (by decide +kernel) (pc' := 201) (lo' := [(7, (0, (m2 35 58) - c)), (0, (2, 35)), (1, (0, i)), (2, (0, used)), (3, (0, k)), (4, (1, mem 70 k)), (6, (0, c))]) (st' := [(1, -(mem 70 k)), (0, (m2 35 58) - c), (0, k), (2, 35)]) rfl ?_
                    refine jcallV hF (c_X12_mark hG hS hR_m2 k ((m2 35 58) - c) (-(mem 70 k)) (by omega) (by omega) (by first | omega | (rw [e57]; omega))) MW_X12_mark 13 (by decide) (by exact hS.k35) wd_2121 wd_2123 wd_p97 (by decide +kernel) [] rfl rfl (by decide) (Nat.le_of_ble_eq_true rfl) (by decide) (kMV (fun m_12 h_13 => ?_))
                    obtain ⟨hR_m_12, h_13⟩ := h_13
                    have hb9 := h_13.1
                    have hx9 := h_13.2
                    have j58 := hb9 35 58 (by decide)
                    have j59 := hb9 35 59 (by decide)
                    refine jblk hF [(.aload_n 0, 1)] (by decide +kernel) (pc' := 205) (lo' := [(7, (0, (m2 35 58) - c)), (0, (2, 35)), (1, (0, i)), (2, (0, used)), (3, (0, k)), (4, (1, mem 70 k)), (6, (0, c))]) (st' := [(2, 35)]) rfl ?_
                    refine jget hF 13 49 2 49 rfl (by decide) (by decide) rfl wd_1512 (by decide +kernel) (by exact hS.k35) ?_
                    rw [SR.r49 hR_m_12]
                    refine jblk hF [(.iload_n 2, 1), (.aload_n 0, 1)] (by decide +kernel) (pc' := 210) (lo' := [(7, (0, (m2 35 58) - c)), (0, (2, 35)), (1, (0, i)), (2, (0, used)), (3, (0, k)), (4, (1, mem 70 k)), (6, (0, c))]) (st' := [(2, 35), (0, used), (2, 71)]) rfl ?_
                    refine jget hF 13 59 0 59 rfl (by decide) (by decide) rfl wd_1522 (by decide +kernel) (by exact hS.k35) ?_
                    refine jblk hF [(.iload_n 3, 1), (.iadd, 1)] (by decide +kernel) (pc' := 215) (lo' := [(7, (0, (m2 35 58) - c)), (0, (2, 35)), (1, (0, i)), (2, (0, used)), (3, (0, k)), (4, (1, mem 70 k)), (6, (0, c))]) (st' := [(0, (m_12 35 59) + k), (0, used), (2, 71)]) rfl ?_
                    refine jiast hF (by decide +kernel) (by decide) (by exact hS.k71) (by omega) (by have := hS.l71; omega) ?_
                    refine jblk hF [(.aload_n 0, 1)] (by decide +kernel) (pc' := 217) (lo' := [(7, (0, (m2 35 58) - c)), (0, (2, 35)), (1, (0, i)), (2, (0, used)), (3, (0, k)), (4, (1, mem 70 k)), (6, (0, c))]) (st' := [(2, 35)]) rfl ?_
                    refine jget hF 13 50 2 50 rfl (by decide) (by decide) rfl wd_1513 (by decide +kernel) (by exact hS.k35) ?_
                    rw [SR.r50 (SR.s hR_m_12 (Or.inl (by decide)))]
                    refine jblk hF [(.iload_n 2, 1), (.iload 6, 2), (.aload_n 0, 1)] (by decide +kernel) (pc' := 224) (lo' := [(7, (0, (m2 35 58) - c)), (0, (2, 35)), (1, (0, i)), (2, (0, used)), (3, (0, k)), (4, (1, mem 70 k)), (6, (0, c))]) (st' := [(2, 35), (0, c), (0, used), (2, 72)]) rfl ?_
                    refine jget hF 13 58 0 58 rfl (by decide) (by decide) rfl wd_1521 (by decide +kernel) (by exact hS.k35) ?_
                    rw [show (set2 m_12 71 used ((m_12 35 59) + k)) 35 58 = m_12 35 58 from (s2_a (by decide))]
                    refine jicmp_ne hF (off := 8) 235 (by decide +kernel) (by decide) (by omega) (by omega) (fun _ => ?_) (fun h => absurd h (by omega))
                    refine jblk hF [(.iload 6, 2)] (by decide +kernel) (pc' := 237) (lo' := [(7, (0, (m2 35 58) - c)), (0, (2, 35)), (1, (0, i)), (2, (0, used)), (3, (0, k)), (4, (1, mem 70 k)), (6, (0, c))]) (st' := [(0, c), (0, used), (2, 72)]) rfl ?_
                    have hCo : c = coC (mem 35 58) c := by unfold coC; first | exact (if_pos (by omega)).symm | exact (if_neg (by omega)).symm
                    refine jiast hF (by decide +kernel) (by decide) (by exact hS.k72) (by omega) (by have := hS.l72; omega) ?_
                    refine jblk hF [(.aload_n 0, 1)] (by decide +kernel) (pc' := 239) (lo' := [(7, (0, (m2 35 58) - c)), (0, (2, 35)), (1, (0, i)), (2, (0, used)), (3, (0, k)), (4, (1, mem 70 k)), (6, (0, c))]) (st' := [(2, 35)]) rfl ?_
                    refine jget hF 13 51 2 51 rfl (by decide) (by decide) rfl wd_1514 (by decide +kernel) (by exact hS.k35) ?_
                    rw [SR.r51 (SR.s (SR.s hR_m_12 (Or.inl (by decide))) (Or.inl (by decide)))]
                    refine jblk hF [(.iload_n 2, 1), (.lload 4, 2)] (by decide +kernel) (pc' := 245) (lo' := [(7, (0, (m2 35 58) - c)), (0, (2, 35)), (1, (0, i)), (2, (0, used)), (3, (0, k)), (4, (1, mem 70 k)), (6, (0, c))]) (st' := [(1, mem 70 k), (0, used), (2, 73)]) rfl ?_
                    refine jlast hF (by decide +kernel) (by decide) (by exact hS.k73) (by omega) (by have := hS.l73; omega) ?_
                    have hfs9 : FS mem (set2 (set2 (set2 m_12 71 used ((m_12 35 59) + k)) 72 used c) 73 used (mem 70 k)) := ((hfs2.tr (FS.of70 hb9)).tr (FS.s _ _ (by decide))).tr ((FS.s _ _ (by decide)).tr (FS.s _ _ (by decide)))
                    have g57 : (set2 (set2 (set2 m_12 71 used ((m_12 35 59) + k)) 72 used c) 73 used (mem 70 k)) 35 57 = mem 35 57 := hfs9 35 57 (by decide) (by decide) (by decide) (by decide) (by decide) (by decide) (by decide) (by decide)
                    have g58 : (set2 (set2 (set2 m_12 71 used ((m_12 35 59) + k)) 72 used c) 73 used (mem 70 k)) 35 58 = mem 35 58 := hfs9 35 58 (by decide) (by decide) (by decide) (by decide) (by decide) (by decide) (by decide) (by decide)
                    have g59 : (set2 (set2 (set2 m_12 71 used ((m_12 35 59) + k)) 72 used c) 73 used (mem 70 k)) 35 59 = mem 35 59 := hfs9 35 59 (by decide) (by decide) (by decide) (by decide) (by decide) (by decide) (by decide) (by decide)
                    have hrs9 : ∀ x : Int, 0 ≤ x → x < mem 35 57 → (set2 (set2 (set2 m_12 71 used ((m_12 35 59) + k)) 72 used c) 73 used (mem 70 k)) 70 x = markJ (mem 35 57) rs k (tmC (mem 35 58) c) (-(rs k)) (tmC (mem 35 58) c + 1) x := fun x h1 h2 => by rw [s2_a (by decide), s2_a (by decide), s2_a (by decide), hx9 x, hT, f57, hrk2]; exact markJ_congr hz70b x h1 h2
                    have htr9 : TRY (set2 (set2 (set2 m_12 71 used ((m_12 35 59) + k)) 72 used c) 73 used (mem 70 k)) 3 (upI tl 2 (mem 35 59 + k)) (upI tc 2 (coC (mem 35 58) c)) (upI ta 2 (rs k)) := by rw [hu]; exact try_up (htr2.of ⟨funext fun j => hb9 71 j (by decide), funext fun j => hb9 72 j (by decide), funext fun j => hb9 73 j (by decide)⟩) (by omega) hCo hrk2
                    have hst9 : SKST (set2 (set2 (set2 m_12 71 used ((m_12 35 59) + k)) 72 used c) 73 used (mem 70 k)) (foldC FF c.toNat S) := hst2.of (fun a j q1 q2 q3 q4 => by rw [s2_a q4, s2_a q3, s2_a q2, hb9 a j q1])
                    refine jblk hF [(.aload_n 0, 1), (.iload_n 3, 1), (.iconst 1, 1), (.iadd, 1), (.iload_n 2, 1), (.iconst 1, 1), (.iadd, 1)] (by decide +kernel) (pc' := 253) (lo' := [(7, (0, (m2 35 58) - c)), (0, (2, 35)), (1, (0, i)), (2, (0, used)), (3, (0, k)), (4, (1, mem 70 k)), (6, (0, c))]) (st' := [(0, used + 1), (0, k + 1), (2, 35)]) rfl ?_
                    refine jcallV hF (c_seek3 hG hS (SR.s (SR.s (SR.s hR_m_12 (Or.inl (by decide))) (Or.inl (by decide))) (Or.inl (by decide))) (k + 1) (used + 1) (by exact (markJ (mem 35 57) rs k (tmC (mem 35 58) c) (-(rs k)) (tmC (mem 35 58) c + 1))) (by exact (upI tl 2 (mem 35 59 + k))) (by exact (upI tc 2 (coC (mem 35 58) c))) (by exact (upI ta 2 (rs k))) (by exact (foldC FF c.toNat S)) (by omega) (by first | omega | (rw [g57]; omega) | (rw [g58]; omega) | (rw [g59]; omega)) (by first | omega | (rw [g57]; omega) | (rw [g58]; omega) | (rw [g59]; omega)) (by first | omega | (rw [g57]; omega) | (rw [g58]; omega) | (rw [g59]; omega)) (by first | omega | (rw [g57]; omega) | (rw [g58]; omega) | (rw [g59]; omega)) (by rw [g57]; exact hrs9) (by exact htr9) (by exact hst9) (by exact hsb2)) MW_X12_seek 13 (by decide) (by exact hS.k35) wd_2117 wd_2119 wd_p96 (by decide +kernel) [] rfl rfl (by decide) (Nat.le_of_ble_eq_true rfl) (by decide) (kMV (fun m_15 h_16 => ?_))
                    obtain ⟨hR_m_15, h_16⟩ := h_16
                    obtain ⟨hfs8, hz8, htr8, hst8⟩ := h_16
                    rw [g57] at hz8
                    rw [g57, g58, g59] at hst8
                    have i57 : m_15 35 57 = mem 35 57 := (hfs9.tr hfs8) 35 57 (by decide) (by decide) (by decide) (by decide) (by decide) (by decide) (by decide) (by decide)
                    refine jblk hF [(.aload_n 0, 1), (.iload_n 3, 1), (.iload 7, 2), (.lload 4, 2)] (by decide +kernel) (pc' := 262) (lo' := [(7, (0, (m2 35 58) - c)), (0, (2, 35)), (1, (0, i)), (2, (0, used)), (3, (0, k)), (4, (1, mem 70 k)), (6, (0, c))]) (st' := [(1, mem 70 k), (0, (m2 35 58) - c), (0, k), (2, 35)]) rfl ?_
                    refine jcallV hF (c_X12_mark hG hS hR_m_15 k ((m2 35 58) - c) (mem 70 k) (by omega) (by omega) (by first | omega | (rw [e57]; omega))) MW_X12_mark 13 (by decide) (by exact hS.k35) wd_2121 wd_2123 wd_p97 (by decide +kernel) [] rfl rfl (by decide) (Nat.le_of_ble_eq_true rfl) (by decide) (kMV (fun m_17 h_18 => ?_))
                    obtain ⟨hR_m_17, h_18⟩ := h_18
                    have hfs3 : FS mem m_17 := (hfs9.tr hfs8).tr (FS.of70 h_18.1)
                    have hz3 : ∀ x : Int, 0 ≤ x → x < mem 35 57 → m_17 70 x = rs x := fun x h1 h2 => by rw [h_18.2 x, hT, i57, hrk2, markJ_congr (fun y h1 h2 => (hz8 y h1 h2).trans (hrs9 y h1 h2)) x h1 h2]; exact markJ_back x
                    have htr3 : TRY m_17 2 tl tc ta := (try_dn (u := 2) htr8).of ⟨funext fun j => h_18.1 71 j (by decide), funext fun j => h_18.1 72 j (by decide), funext fun j => h_18.1 73 j (by decide)⟩
                    have hst3 : SKST m_17 (FF c (foldC FF c.toNat S)) := by rw [hFFa]; exact hst8.of (fun a j q1 _ _ _ => h_18.1 a j q1)
                    refine jblk hF [(.iinc 6 1, 3)] (by decide +kernel) (pc' := 268) (lo' := [(6, (0, c + 1)), (7, (0, (m2 35 58) - c)), (0, (2, 35)), (1, (0, i)), (2, (0, used)), (3, (0, k)), (4, (1, mem 70 k))]) (st' := []) rfl ?_
                    refine jgoto hF (off := (-110)) 158 (by decide +kernel) (by decide) ?_
                    refine jsub [2, 3, 4, 5, 6, 0] rfl ?_
                    refine ih_7 (c + 1) m_17 ?_ ?_ ?_ ?_ ?_ ?_ ?_ ?_
                    · omega
                    · assumption
                    · exact hfs3
                    · exact hz3
                    · exact htr3
                    · rw [foldC_s (by omega)]; exact hst3
                    · rw [foldC_s (by omega), hFFa]; exact hSBF _ _ _ _ _ _ hsb2
                    · omega
                  · refine jblk hF [(.aload_n 0, 1)] (by decide +kernel) (pc' := 177) (lo' := [(0, (2, 35)), (1, (0, i)), (2, (0, used)), (3, (0, k)), (4, (1, mem 70 k)), (6, (0, c))]) (st' := [(2, 35)]) rfl ?_
                    refine jget hF 13 58 0 58 rfl (by decide) (by decide) rfl wd_1521 (by decide +kernel) (by exact hS.k35) ?_
                    refine jblk hF [(.iconst 1, 1), (.iadd, 1)] (by decide +kernel) (pc' := 182) (lo' := [(0, (2, 35)), (1, (0, i)), (2, (0, used)), (3, (0, k)), (4, (1, mem 70 k)), (6, (0, c))]) (st' := [(0, (m2 35 58) + 1)]) rfl ?_
                    refine jgoto hF (off := 10) 192 (by decide +kernel) (by decide) ?_
                    refine jblk hF [(.istore 7, 2)] (by decide +kernel) (pc' := 194) (lo' := [(7, (0, (m2 35 58) + 1)), (0, (2, 35)), (1, (0, i)), (2, (0, used)), (3, (0, k)), (4, (1, mem 70 k)), (6, (0, c))]) (st' := []) rfl ?_
                    have hT : ((m2 35 58) + 1) = tmC (mem 35 58) c := by unfold tmC; first | (rw [if_pos (by omega)]; omega) | (rw [if_neg (by omega)]; omega)
                    have hT5 : 0 ≤ tmC (mem 35 58) c ∧ tmC (mem 35 58) c ≤ 5 := by omega
                    refine jblk hF [(.aload_n 0, 1), (.iload_n 3, 1), (.iload 7, 2), (.lload 4, 2), (.lneg, 1)] (by decide +kernel) (pc' := 201) (lo' := [(7, (0, (m2 35 58) + 1)), (0, (2, 35)), (1, (0, i)), (2, (0, used)), (3, (0, k)), (4, (1, mem 70 k)), (6, (0, c))]) (st' := [(1, -(mem 70 k)), (0, (m2 35 58) + 1), (0, k), (2, 35)]) rfl ?_
                    refine jcallV hF (c_X12_mark hG hS hR_m2 k ((m2 35 58) + 1) (-(mem 70 k)) (by omega) (by omega) (by first | omega | (rw [e57]; omega))) MW_X12_mark 13 (by decide) (by exact hS.k35) wd_2121 wd_2123 wd_p97 (by decide +kernel) [] rfl rfl (by decide) (Nat.le_of_ble_eq_true rfl) (by decide) (kMV (fun m_19 h_20 => ?_))
                    obtain ⟨hR_m_19, h_20⟩ := h_20
                    have hb9 := h_20.1
                    have hx9 := h_20.2
                    have j58 := hb9 35 58 (by decide)
                    have j59 := hb9 35 59 (by decide)
                    refine jblk hF [(.aload_n 0, 1)] (by decide +kernel) (pc' := 205) (lo' := [(7, (0, (m2 35 58) + 1)), (0, (2, 35)), (1, (0, i)), (2, (0, used)), (3, (0, k)), (4, (1, mem 70 k)), (6, (0, c))]) (st' := [(2, 35)]) rfl ?_
                    refine jget hF 13 49 2 49 rfl (by decide) (by decide) rfl wd_1512 (by decide +kernel) (by exact hS.k35) ?_
                    rw [SR.r49 hR_m_19]
                    refine jblk hF [(.iload_n 2, 1), (.aload_n 0, 1)] (by decide +kernel) (pc' := 210) (lo' := [(7, (0, (m2 35 58) + 1)), (0, (2, 35)), (1, (0, i)), (2, (0, used)), (3, (0, k)), (4, (1, mem 70 k)), (6, (0, c))]) (st' := [(2, 35), (0, used), (2, 71)]) rfl ?_
                    refine jget hF 13 59 0 59 rfl (by decide) (by decide) rfl wd_1522 (by decide +kernel) (by exact hS.k35) ?_
                    refine jblk hF [(.iload_n 3, 1), (.iadd, 1)] (by decide +kernel) (pc' := 215) (lo' := [(7, (0, (m2 35 58) + 1)), (0, (2, 35)), (1, (0, i)), (2, (0, used)), (3, (0, k)), (4, (1, mem 70 k)), (6, (0, c))]) (st' := [(0, (m_19 35 59) + k), (0, used), (2, 71)]) rfl ?_
                    refine jiast hF (by decide +kernel) (by decide) (by exact hS.k71) (by omega) (by have := hS.l71; omega) ?_
                    refine jblk hF [(.aload_n 0, 1)] (by decide +kernel) (pc' := 217) (lo' := [(7, (0, (m2 35 58) + 1)), (0, (2, 35)), (1, (0, i)), (2, (0, used)), (3, (0, k)), (4, (1, mem 70 k)), (6, (0, c))]) (st' := [(2, 35)]) rfl ?_
                    refine jget hF 13 50 2 50 rfl (by decide) (by decide) rfl wd_1513 (by decide +kernel) (by exact hS.k35) ?_
                    rw [SR.r50 (SR.s hR_m_19 (Or.inl (by decide)))]
                    refine jblk hF [(.iload_n 2, 1), (.iload 6, 2), (.aload_n 0, 1)] (by decide +kernel) (pc' := 224) (lo' := [(7, (0, (m2 35 58) + 1)), (0, (2, 35)), (1, (0, i)), (2, (0, used)), (3, (0, k)), (4, (1, mem 70 k)), (6, (0, c))]) (st' := [(2, 35), (0, c), (0, used), (2, 72)]) rfl ?_
                    refine jget hF 13 58 0 58 rfl (by decide) (by decide) rfl wd_1521 (by decide +kernel) (by exact hS.k35) ?_
                    rw [show (set2 m_19 71 used ((m_19 35 59) + k)) 35 58 = m_19 35 58 from (s2_a (by decide))]
                    refine jicmp_ne hF (off := 8) 235 (by decide +kernel) (by decide) (by omega) (by omega) (fun h => absurd h (by omega)) (fun _ => ?_)
                    refine jblk hF [(.bipush 9, 2)] (by decide +kernel) (pc' := 232) (lo' := [(7, (0, (m2 35 58) + 1)), (0, (2, 35)), (1, (0, i)), (2, (0, used)), (3, (0, k)), (4, (1, mem 70 k)), (6, (0, c))]) (st' := [(0, 9), (0, used), (2, 72)]) rfl ?_
                    refine jgoto hF (off := 5) 237 (by decide +kernel) (by decide) ?_
                    have hCo : 9 = coC (mem 35 58) c := by unfold coC; first | exact (if_pos (by omega)).symm | exact (if_neg (by omega)).symm
                    refine jiast hF (by decide +kernel) (by decide) (by exact hS.k72) (by omega) (by have := hS.l72; omega) ?_
                    refine jblk hF [(.aload_n 0, 1)] (by decide +kernel) (pc' := 239) (lo' := [(7, (0, (m2 35 58) + 1)), (0, (2, 35)), (1, (0, i)), (2, (0, used)), (3, (0, k)), (4, (1, mem 70 k)), (6, (0, c))]) (st' := [(2, 35)]) rfl ?_
                    refine jget hF 13 51 2 51 rfl (by decide) (by decide) rfl wd_1514 (by decide +kernel) (by exact hS.k35) ?_
                    rw [SR.r51 (SR.s (SR.s hR_m_19 (Or.inl (by decide))) (Or.inl (by decide)))]
                    refine jblk hF [(.iload_n 2, 1), (.lload 4, 2)] (by decide +kernel) (pc' := 245) (lo' := [(7, (0, (m2 35 58) + 1)), (0, (2, 35)), (1, (0, i)), (2, (0, used)), (3, (0, k)), (4, (1, mem 70 k)), (6, (0, c))]) (st' := [(1, mem 70 k), (0, used), (2, 73)]) rfl ?_
                    refine jlast hF (by decide +kernel) (by decide) (by exact hS.k73) (by omega) (by have := hS.l73; omega) ?_
                    have hfs9 : FS mem (set2 (set2 (set2 m_19 71 used ((m_19 35 59) + k)) 72 used 9) 73 used (mem 70 k)) := ((hfs2.tr (FS.of70 hb9)).tr (FS.s _ _ (by decide))).tr ((FS.s _ _ (by decide)).tr (FS.s _ _ (by decide)))
                    have g57 : (set2 (set2 (set2 m_19 71 used ((m_19 35 59) + k)) 72 used 9) 73 used (mem 70 k)) 35 57 = mem 35 57 := hfs9 35 57 (by decide) (by decide) (by decide) (by decide) (by decide) (by decide) (by decide) (by decide)
                    have g58 : (set2 (set2 (set2 m_19 71 used ((m_19 35 59) + k)) 72 used 9) 73 used (mem 70 k)) 35 58 = mem 35 58 := hfs9 35 58 (by decide) (by decide) (by decide) (by decide) (by decide) (by decide) (by decide) (by decide)
                    have g59 : (set2 (set2 (set2 m_19 71 used ((m_19 35 59) + k)) 72 used 9) 73 used (mem 70 k)) 35 59 = mem 35 59 := hfs9 35 59 (by decide) (by decide) (by decide) (by decide) (by decide) (by decide) (by decide) (by decide)
                    have hrs9 : ∀ x : Int, 0 ≤ x → x < mem 35 57 → (set2 (set2 (set2 m_19 71 used ((m_19 35 59) + k)) 72 used 9) 73 used (mem 70 k)) 70 x = markJ (mem 35 57) rs k (tmC (mem 35 58) c) (-(rs k)) (tmC (mem 35 58) c + 1) x := fun x h1 h2 => by rw [s2_a (by decide), s2_a (by decide), s2_a (by decide), hx9 x, hT, f57, hrk2]; exact markJ_congr hz70b x h1 h2
                    have htr9 : TRY (set2 (set2 (set2 m_19 71 used ((m_19 35 59) + k)) 72 used 9) 73 used (mem 70 k)) 3 (upI tl 2 (mem 35 59 + k)) (upI tc 2 (coC (mem 35 58) c)) (upI ta 2 (rs k)) := by rw [hu]; exact try_up (htr2.of ⟨funext fun j => hb9 71 j (by decide), funext fun j => hb9 72 j (by decide), funext fun j => hb9 73 j (by decide)⟩) (by omega) hCo hrk2
                    have hst9 : SKST (set2 (set2 (set2 m_19 71 used ((m_19 35 59) + k)) 72 used 9) 73 used (mem 70 k)) (foldC FF c.toNat S) := hst2.of (fun a j q1 q2 q3 q4 => by rw [s2_a q4, s2_a q3, s2_a q2, hb9 a j q1])
                    refine jblk hF [(.aload_n 0, 1), (.iload_n 3, 1), (.iconst 1, 1), (.iadd, 1), (.iload_n 2, 1), (.iconst 1, 1), (.iadd, 1)] (by decide +kernel) (pc' := 253) (lo' := [(7, (0, (m2 35 58) + 1)), (0, (2, 35)), (1, (0, i)), (2, (0, used)), (3, (0, k)), (4, (1, mem 70 k)), (6, (0, c))]) (st' := [(0, used + 1), (0, k + 1), (2, 35)]) rfl ?_
                    refine jcallV hF (c_seek3 hG hS (SR.s (SR.s (SR.s hR_m_19 (Or.inl (by decide))) (Or.inl (by decide))) (Or.inl (by decide))) (k + 1) (used + 1) (by exact (markJ (mem 35 57) rs k (tmC (mem 35 58) c) (-(rs k)) (tmC (mem 35 58) c + 1))) (by exact (upI tl 2 (mem 35 59 + k))) (by exact (upI tc 2 (coC (mem 35 58) c))) (by exact (upI ta 2 (rs k))) (by exact (foldC FF c.toNat S)) (by omega) (by first | omega | (rw [g57]; omega) | (rw [g58]; omega) | (rw [g59]; omega)) (by first | omega | (rw [g57]; omega) | (rw [g58]; omega) | (rw [g59]; omega)) (by first | omega | (rw [g57]; omega) | (rw [g58]; omega) | (rw [g59]; omega)) (by first | omega | (rw [g57]; omega) | (rw [g58]; omega) | (rw [g59]; omega)) (by rw [g57]; exact hrs9) (by exact htr9) (by exact hst9) (by exact hsb2)) MW_X12_seek 13 (by decide) (by exact hS.k35) wd_2117 wd_2119 wd_p96 (by decide +kernel) [] rfl rfl (by decide) (Nat.le_of_ble_eq_true rfl) (by decide) (kMV (fun m_22 h_23 => ?_))
                    obtain ⟨hR_m_22, h_23⟩ := h_23
                    obtain ⟨hfs8, hz8, htr8, hst8⟩ := h_23
                    rw [g57] at hz8
                    rw [g57, g58, g59] at hst8
                    have i57 : m_22 35 57 = mem 35 57 := (hfs9.tr hfs8) 35 57 (by decide) (by decide) (by decide) (by decide) (by decide) (by decide) (by decide) (by decide)
                    refine jblk hF [(.aload_n 0, 1), (.iload_n 3, 1), (.iload 7, 2), (.lload 4, 2)] (by decide +kernel) (pc' := 262) (lo' := [(7, (0, (m2 35 58) + 1)), (0, (2, 35)), (1, (0, i)), (2, (0, used)), (3, (0, k)), (4, (1, mem 70 k)), (6, (0, c))]) (st' := [(1, mem 70 k), (0, (m2 35 58) + 1), (0, k), (2, 35)]) rfl ?_
                    refine jcallV hF (c_X12_mark hG hS hR_m_22 k ((m2 35 58) + 1) (mem 70 k) (by omega) (by omega) (by first | omega | (rw [e57]; omega))) MW_X12_mark 13 (by decide) (by exact hS.k35) wd_2121 wd_2123 wd_p97 (by decide +kernel) [] rfl rfl (by decide) (Nat.le_of_ble_eq_true rfl) (by decide) (kMV (fun m_24 h_25 => ?_))
                    obtain ⟨hR_m_24, h_25⟩ := h_25
                    have hfs3 : FS mem m_24 := (hfs9.tr hfs8).tr (FS.of70 h_25.1)
                    have hz3 : ∀ x : Int, 0 ≤ x → x < mem 35 57 → m_24 70 x = rs x := fun x h1 h2 => by rw [h_25.2 x, hT, i57, hrk2, markJ_congr (fun y h1 h2 => (hz8 y h1 h2).trans (hrs9 y h1 h2)) x h1 h2]; exact markJ_back x
                    have htr3 : TRY m_24 2 tl tc ta := (try_dn (u := 2) htr8).of ⟨funext fun j => h_25.1 71 j (by decide), funext fun j => h_25.1 72 j (by decide), funext fun j => h_25.1 73 j (by decide)⟩
                    have hst3 : SKST m_24 (FF c (foldC FF c.toNat S)) := by rw [hFFa]; exact hst8.of (fun a j q1 _ _ _ => h_25.1 a j q1)
                    refine jblk hF [(.iinc 6 1, 3)] (by decide +kernel) (pc' := 268) (lo' := [(6, (0, c + 1)), (7, (0, (m2 35 58) + 1)), (0, (2, 35)), (1, (0, i)), (2, (0, used)), (3, (0, k)), (4, (1, mem 70 k))]) (st' := []) rfl ?_
                    refine jgoto hF (off := (-110)) 158 (by decide +kernel) (by decide) ?_
                    refine jsub [2, 3, 4, 5, 6, 0] rfl ?_
                    refine ih_7 (c + 1) m_24 ?_ ?_ ?_ ?_ ?_ ?_ ?_ ?_
                    · omega
                    · assumption
                    · exact hfs3
                    · exact hz3
                    · exact htr3
                    · rw [foldC_s (by omega)]; exact hst3
                    · rw [foldC_s (by omega), hFFa]; exact hSBF _ _ _ _ _ _ hsb2
                    · omega
            refine jsub [2, 3, 4, 5, 1, 0] rfl ?_
            refine L_8 _ 0 mem ?_ ?_ ?_ ?_ ?_ ?_ ?_ (Nat.lt_succ_self _)
            · omega
            · exact hR
            · exact FS.rf
            · exact hrs
            · exact htr
            · exact hst
            · exact hsb
          · refine jvret hF hr (by decide +kernel) ?_
            exact lMV ⟨hR, by exfalso; omega⟩
        · refine jblk hF [(.aload_n 0, 1)] (by decide +kernel) (pc' := 36) (lo' := [(0, (2, 35)), (1, (0, i)), (2, (0, used)), (3, (0, k))]) (st' := [(2, 35)]) rfl ?_
          refine jget hF 13 55 0 55 rfl (by decide) (by decide) rfl wd_1518 (by decide +kernel) (by exact hS.k35) ?_
          refine jblk hF [(.iconst (-1), 1)] (by decide +kernel) (pc' := 40) (lo' := [(0, (2, 35)), (1, (0, i)), (2, (0, used)), (3, (0, k))]) (st' := [(0, (-1)), (0, mem 35 55)]) rfl ?_
          refine jicmp_eq hF (off := 11) 51 (by decide +kernel) (by decide) (by omega) (by decide) (fun h_26 => ?_) (fun h_26 => ?_)
          · have hkN : k = mem 35 57 := by omega
            refine jblk hF [(.aload_n 0, 1), (.iload_n 2, 1)] (by decide +kernel) (pc' := 53) (lo' := [(0, (2, 35)), (1, (0, i)), (2, (0, used)), (3, (0, k))]) (st' := [(0, used), (2, 35)]) rfl ?_
            refine jput hF 13 55 0 55 rfl (by decide) (by decide) rfl wd_1518 (by decide +kernel) rfl (Or.inl rfl) (by exact hS.k35) (fun h => by cases h) ?_
            refine jblk hF [(.aload_n 0, 1), (.iconst 0, 1)] (by decide +kernel) (pc' := 58) (lo' := [(0, (2, 35)), (1, (0, i)), (2, (0, used)), (3, (0, k))]) (st' := [(0, 0), (2, 35)]) rfl ?_
            refine jput hF 13 56 0 56 rfl (by decide) (by decide) rfl wd_1519 (by decide +kernel) rfl (Or.inl rfl) (by exact hS.k35) (fun h => by cases h) ?_
            refine jblk hF [(.iconst 0, 1), (.istore 4, 2)] (by decide +kernel) (pc' := 64) (lo' := [(4, (0, 0)), (0, (2, 35)), (1, (0, i)), (2, (0, used)), (3, (0, k))]) (st' := []) rfl ?_
            have L_28 : ∀ (fu_29 : Nat) (j : Int) (m1 : Int → Int → Int), (0 ≤ j ∧ j ≤ 2) → (SR m1) → (FS mem m1) → (m1 70 = mem 70 ∧ m1 71 = mem 71 ∧ m1 72 = mem 72 ∧ m1 73 = mem 73) → (m1 35 55 = used ∧ m1 35 56 = 0) → (m1 74 = cpN j tl S.2.2.1 ∧ m1 75 = cpN j tc S.2.2.2.1 ∧ m1 76 = cpN j ta S.2.2.2.2) →  (4 - j).toNat < fu_29 → J z g 8 0 0 (QM z g 0 0 (pMV (fun mem' => SR mem' ∧ (FS mem mem' ∧ (∀ x : Int, 0 ≤ x → x < mem 35 57 → mem' 70 x = mem 70 x) ∧ TRY mem' 2 tl tc ta ∧ SKST mem' (seekF (mem 35 57) (mem 35 58) (mem 35 59) 2 rs i tl tc ta S))) kd ln sz)) 64 [(0, (2, 35)), (1, (0, i)), (2, (0, used)), (3, (0, k)), (4, (0, j))] [] kd ln m1 sz := by
              intro fu_29
              induction fu_29 with
              | zero => intro j m1 _ _ _ _ _ _ hm; omega
              | succ fu_29 ih_27 =>
                intro j m1 hj hR_m1 hfs hz70 hz55 hz74 hm1
                refine jblk hF [(.iload 4, 2), (.iload_n 2, 1)] (by decide +kernel) (pc' := 67) (lo' := [(0, (2, 35)), (1, (0, i)), (2, (0, used)), (3, (0, k)), (4, (0, j))]) (st' := [(0, used), (0, j)]) rfl ?_
                refine jicmp_ge hF (off := 51) 118 (by decide +kernel) (by decide) (by omega) (by omega) (fun h_30 => ?_) (fun h_30 => ?_)
                · refine jblk hF [(.aload_n 0, 1), (.dup, 1)] (by decide +kernel) (pc' := 120) (lo' := [(0, (2, 35)), (1, (0, i)), (2, (0, used)), (3, (0, k)), (4, (0, j))]) (st' := [(2, 35), (2, 35)]) rfl ?_
                  refine jget hF 13 56 0 56 rfl (by decide) (by decide) rfl wd_1519 (by decide +kernel) (by exact hS.k35) ?_
                  refine jblk hF [(.iload_n 2, 1), (.aload_n 0, 1)] (by decide +kernel) (pc' := 125) (lo' := [(0, (2, 35)), (1, (0, i)), (2, (0, used)), (3, (0, k)), (4, (0, j))]) (st' := [(2, 35), (0, used), (0, m1 35 56), (2, 35)]) rfl ?_
                  refine jget hF 13 55 0 55 rfl (by decide) (by decide) rfl wd_1518 (by decide +kernel) (by exact hS.k35) ?_
                  refine jicmp_ne hF (off := 7) 135 (by decide +kernel) (by decide) (by omega) (by omega) (fun h_31 => ?_) (fun h_31 => ?_)
                  · refine jblk hF [(.iconst 0, 1), (.iadd, 1)] (by decide +kernel) (pc' := 137) (lo' := [(0, (2, 35)), (1, (0, i)), (2, (0, used)), (3, (0, k)), (4, (0, j))]) (st' := [(0, (m1 35 56) + 0), (2, 35)]) rfl ?_
                    refine jput hF 13 56 0 56 rfl (by decide) (by decide) rfl wd_1519 (by decide +kernel) rfl (Or.inl rfl) (by exact hS.k35) (fun h => by cases h) ?_
                    refine jvret hF hr (by decide +kernel) ?_
                    exact lMV ⟨(SR.s hR_m1 (Or.inr (by decide))), by have hkN : k = mem 35 57 := (by omega); have hsT : skipN rs i (mem 35 57 - i).toNat = mem 35 57 := (by rw [hsk, hkN]; exact skip_n); rw [seekT (u := 2) (by decide) hsT]; first | exact ⟨hfs.tr (FS.p _ (by decide)), fun x _ _ => congrFun hz70.1 x, htr.of ⟨hz70.2.1, hz70.2.2.1, hz70.2.2.2⟩, fin_new (by omega) (by rw [hz55.1]; exact hu) (by rw [show (2 : Int) = j by omega]; exact hz74) (by omega)⟩ | exact ⟨FS.p _ (by decide), fun x _ _ => rfl, htr, fin_keep (by omega) hst (by first | (rw [if_pos (by omega)]; omega) | (rw [if_neg (by omega)]; omega))⟩ | (exfalso; omega)⟩
                  · refine jblk hF [(.iconst 1, 1)] (by decide +kernel) (pc' := 132) (lo' := [(0, (2, 35)), (1, (0, i)), (2, (0, used)), (3, (0, k)), (4, (0, j))]) (st' := [(0, 1), (0, m1 35 56), (2, 35)]) rfl ?_
                    refine jgoto hF (off := 4) 136 (by decide +kernel) (by decide) ?_
                    refine jblk hF [(.iadd, 1)] (by decide +kernel) (pc' := 137) (lo' := [(0, (2, 35)), (1, (0, i)), (2, (0, used)), (3, (0, k)), (4, (0, j))]) (st' := [(0, (m1 35 56) + 1), (2, 35)]) rfl ?_
                    refine jput hF 13 56 0 56 rfl (by decide) (by decide) rfl wd_1519 (by decide +kernel) rfl (Or.inl rfl) (by exact hS.k35) (fun h => by cases h) ?_
                    refine jvret hF hr (by decide +kernel) ?_
                    exact lMV ⟨(SR.s hR_m1 (Or.inr (by decide))), by have hkN : k = mem 35 57 := (by omega); have hsT : skipN rs i (mem 35 57 - i).toNat = mem 35 57 := (by rw [hsk, hkN]; exact skip_n); rw [seekT (u := 2) (by decide) hsT]; first | exact ⟨hfs.tr (FS.p _ (by decide)), fun x _ _ => congrFun hz70.1 x, htr.of ⟨hz70.2.1, hz70.2.2.1, hz70.2.2.2⟩, fin_new (by omega) (by rw [hz55.1]; exact hu) (by rw [show (2 : Int) = j by omega]; exact hz74) (by omega)⟩ | exact ⟨FS.p _ (by decide), fun x _ _ => rfl, htr, fin_keep (by omega) hst (by first | (rw [if_pos (by omega)]; omega) | (rw [if_neg (by omega)]; omega))⟩ | (exfalso; omega)⟩
                · refine jblk hF [(.aload_n 0, 1)] (by decide +kernel) (pc' := 71) (lo' := [(0, (2, 35)), (1, (0, i)), (2, (0, used)), (3, (0, k)), (4, (0, j))]) (st' := [(2, 35)]) rfl ?_
                  refine jget hF 13 52 2 52 rfl (by decide) (by decide) rfl wd_1515 (by decide +kernel) (by exact hS.k35) ?_
                  rw [SR.r52 hR_m1]
                  refine jblk hF [(.iload 4, 2), (.aload_n 0, 1)] (by decide +kernel) (pc' := 77) (lo' := [(0, (2, 35)), (1, (0, i)), (2, (0, used)), (3, (0, k)), (4, (0, j))]) (st' := [(2, 35), (0, j), (2, 74)]) rfl ?_
                  refine jget hF 13 49 2 49 rfl (by decide) (by decide) rfl wd_1512 (by decide +kernel) (by exact hS.k35) ?_
                  rw [SR.r49 hR_m1]
                  refine jblk hF [(.iload 4, 2)] (by decide +kernel) (pc' := 82) (lo' := [(0, (2, 35)), (1, (0, i)), (2, (0, used)), (3, (0, k)), (4, (0, j))]) (st' := [(0, j), (2, 71), (0, j), (2, 74)]) rfl ?_
                  refine jiald hF (by decide +kernel) (by exact hS.k71) (by omega) (by have := hS.l71; omega) ?_
                  refine jiast hF (by decide +kernel) (by decide) (by exact hS.k74) (by omega) (by have := hS.l74; omega) ?_
                  refine jblk hF [(.aload_n 0, 1)] (by decide +kernel) (pc' := 85) (lo' := [(0, (2, 35)), (1, (0, i)), (2, (0, used)), (3, (0, k)), (4, (0, j))]) (st' := [(2, 35)]) rfl ?_
                  refine jget hF 13 53 2 53 rfl (by decide) (by decide) rfl wd_1516 (by decide +kernel) (by exact hS.k35) ?_
                  rw [SR.r53 (SR.s hR_m1 (Or.inl (by decide)))]
                  refine jblk hF [(.iload 4, 2), (.aload_n 0, 1)] (by decide +kernel) (pc' := 91) (lo' := [(0, (2, 35)), (1, (0, i)), (2, (0, used)), (3, (0, k)), (4, (0, j))]) (st' := [(2, 35), (0, j), (2, 75)]) rfl ?_
                  refine jget hF 13 50 2 50 rfl (by decide) (by decide) rfl wd_1513 (by decide +kernel) (by exact hS.k35) ?_
                  rw [SR.r50 (SR.s hR_m1 (Or.inl (by decide)))]
                  refine jblk hF [(.iload 4, 2)] (by decide +kernel) (pc' := 96) (lo' := [(0, (2, 35)), (1, (0, i)), (2, (0, used)), (3, (0, k)), (4, (0, j))]) (st' := [(0, j), (2, 72), (0, j), (2, 75)]) rfl ?_
                  refine jiald hF (by decide +kernel) (by exact hS.k72) (by omega) (by have := hS.l72; omega) ?_
                  rw [show (set2 m1 74 j (m1 71 j)) 72 j = m1 72 j from (s2_a (by decide))]
                  refine jiast hF (by decide +kernel) (by decide) (by exact hS.k75) (by omega) (by have := hS.l75; omega) ?_
                  refine jblk hF [(.aload_n 0, 1)] (by decide +kernel) (pc' := 99) (lo' := [(0, (2, 35)), (1, (0, i)), (2, (0, used)), (3, (0, k)), (4, (0, j))]) (st' := [(2, 35)]) rfl ?_
                  refine jget hF 13 54 2 54 rfl (by decide) (by decide) rfl wd_1517 (by decide +kernel) (by exact hS.k35) ?_
                  rw [SR.r54 (SR.s (SR.s hR_m1 (Or.inl (by decide))) (Or.inl (by decide)))]
                  refine jblk hF [(.iload 4, 2), (.aload_n 0, 1)] (by decide +kernel) (pc' := 105) (lo' := [(0, (2, 35)), (1, (0, i)), (2, (0, used)), (3, (0, k)), (4, (0, j))]) (st' := [(2, 35), (0, j), (2, 76)]) rfl ?_
                  refine jget hF 13 51 2 51 rfl (by decide) (by decide) rfl wd_1514 (by decide +kernel) (by exact hS.k35) ?_
                  rw [SR.r51 (SR.s (SR.s hR_m1 (Or.inl (by decide))) (Or.inl (by decide)))]
                  refine jblk hF [(.iload 4, 2)] (by decide +kernel) (pc' := 110) (lo' := [(0, (2, 35)), (1, (0, i)), (2, (0, used)), (3, (0, k)), (4, (0, j))]) (st' := [(0, j), (2, 73), (0, j), (2, 76)]) rfl ?_
                  refine jlald hF (by decide +kernel) (by exact hS.k73) (by omega) (by have := hS.l73; omega) ?_
                  rw [show (set2 (set2 m1 74 j (m1 71 j)) 75 j (m1 72 j)) 73 j = m1 73 j from ((s2_a (by decide)).trans (s2_a (by decide)))]
                  refine jlast hF (by decide +kernel) (by decide) (by exact hS.k76) (by omega) (by have := hS.l76; omega) ?_
                  refine jblk hF [(.iinc 4 1, 3)] (by decide +kernel) (pc' := 115) (lo' := [(4, (0, j + 1)), (0, (2, 35)), (1, (0, i)), (2, (0, used)), (3, (0, k))]) (st' := []) rfl ?_
                  refine jgoto hF (off := (-51)) 64 (by decide +kernel) (by decide) ?_
                  refine jsub [1, 2, 3, 4, 0] rfl ?_
                  refine ih_27 (j + 1) (set2 (set2 (set2 m1 74 j (m1 71 j)) 75 j (m1 72 j)) 76 j (m1 73 j)) ?_ ?_ ?_ ?_ ?_ ?_ ?_
                  · omega
                  · exact ((hR_m1.s (Or.inl (by decide))).s (Or.inl (by decide))).s (Or.inl (by decide))
                  · exact ((hfs.tr (FS.s _ _ (by decide))).tr (FS.s _ _ (by decide))).tr (FS.s _ _ (by decide))
                  · exact ⟨hz70.1, hz70.2.1, hz70.2.2.1, hz70.2.2.2⟩
                  · exact hz55
                  · have h9 := htr j (by omega) (by omega); exact cp3 (by omega) hz74 ⟨by rw [hz70.2.1]; exact h9.1, by rw [hz70.2.2.1]; exact h9.2.1, by rw [hz70.2.2.2]; exact h9.2.2⟩
                  · omega
            refine jsub [1, 2, 3, 4, 0] rfl ?_
            refine L_28 _ 0 (set2 (set2 mem 35 55 used) 35 56 0) ?_ ?_ ?_ ?_ ?_ ?_ (Nat.lt_succ_self _)
            · omega
            · exact (hR.s (Or.inr (by decide))).s (Or.inr (by decide))
            · exact (FS.p _ (by decide)).tr (FS.p _ (by decide))
            · exact ⟨rfl, rfl, rfl, rfl⟩
            · exact ⟨by rw [s2_k (by decide), s2_s], by rw [s2_s]⟩
            · exact ⟨cpN_0 hst.2.2.1, cpN_0 hst.2.2.2.1, cpN_0 hst.2.2.2.2⟩
          · refine jblk hF [(.iload_n 2, 1), (.aload_n 0, 1)] (by decide +kernel) (pc' := 45) (lo' := [(0, (2, 35)), (1, (0, i)), (2, (0, used)), (3, (0, k))]) (st' := [(2, 35), (0, used)]) rfl ?_
            refine jget hF 13 55 0 55 rfl (by decide) (by decide) rfl wd_1518 (by decide +kernel) (by exact hS.k35) ?_
            refine jicmp_ge hF (off := 70) 118 (by decide +kernel) (by decide) (by omega) (by omega) (fun h_32 => ?_) (fun h_32 => ?_)
            · refine jblk hF [(.aload_n 0, 1), (.dup, 1)] (by decide +kernel) (pc' := 120) (lo' := [(0, (2, 35)), (1, (0, i)), (2, (0, used)), (3, (0, k))]) (st' := [(2, 35), (2, 35)]) rfl ?_
              refine jget hF 13 56 0 56 rfl (by decide) (by decide) rfl wd_1519 (by decide +kernel) (by exact hS.k35) ?_
              refine jblk hF [(.iload_n 2, 1), (.aload_n 0, 1)] (by decide +kernel) (pc' := 125) (lo' := [(0, (2, 35)), (1, (0, i)), (2, (0, used)), (3, (0, k))]) (st' := [(2, 35), (0, used), (0, mem 35 56), (2, 35)]) rfl ?_
              refine jget hF 13 55 0 55 rfl (by decide) (by decide) rfl wd_1518 (by decide +kernel) (by exact hS.k35) ?_
              refine jicmp_ne hF (off := 7) 135 (by decide +kernel) (by decide) (by omega) (by omega) (fun h_33 => ?_) (fun h_33 => ?_)
              · refine jblk hF [(.iconst 0, 1), (.iadd, 1)] (by decide +kernel) (pc' := 137) (lo' := [(0, (2, 35)), (1, (0, i)), (2, (0, used)), (3, (0, k))]) (st' := [(0, (mem 35 56) + 0), (2, 35)]) rfl ?_
                refine jput hF 13 56 0 56 rfl (by decide) (by decide) rfl wd_1519 (by decide +kernel) rfl (Or.inl rfl) (by exact hS.k35) (fun h => by cases h) ?_
                refine jvret hF hr (by decide +kernel) ?_
                exact lMV ⟨(SR.s hR (Or.inr (by decide))), by have hkN : k = mem 35 57 := (by omega); have hsT : skipN rs i (mem 35 57 - i).toNat = mem 35 57 := (by rw [hsk, hkN]; exact skip_n); rw [seekT (u := 2) (by decide) hsT]; first | exact ⟨hfs.tr (FS.p _ (by decide)), fun x _ _ => congrFun hz70.1 x, htr.of ⟨hz70.2.1, hz70.2.2.1, hz70.2.2.2⟩, fin_new (by omega) (by rw [hz55.1]; exact hu) (by rw [show (2 : Int) = j by omega]; exact hz74) (by omega)⟩ | exact ⟨FS.p _ (by decide), fun x _ _ => rfl, htr, fin_keep (by omega) hst (by first | (rw [if_pos (by omega)]; omega) | (rw [if_neg (by omega)]; omega))⟩ | (exfalso; omega)⟩
              · refine jblk hF [(.iconst 1, 1)] (by decide +kernel) (pc' := 132) (lo' := [(0, (2, 35)), (1, (0, i)), (2, (0, used)), (3, (0, k))]) (st' := [(0, 1), (0, mem 35 56), (2, 35)]) rfl ?_
                refine jgoto hF (off := 4) 136 (by decide +kernel) (by decide) ?_
                refine jblk hF [(.iadd, 1)] (by decide +kernel) (pc' := 137) (lo' := [(0, (2, 35)), (1, (0, i)), (2, (0, used)), (3, (0, k))]) (st' := [(0, (mem 35 56) + 1), (2, 35)]) rfl ?_
                refine jput hF 13 56 0 56 rfl (by decide) (by decide) rfl wd_1519 (by decide +kernel) rfl (Or.inl rfl) (by exact hS.k35) (fun h => by cases h) ?_
                refine jvret hF hr (by decide +kernel) ?_
                exact lMV ⟨(SR.s hR (Or.inr (by decide))), by have hkN : k = mem 35 57 := (by omega); have hsT : skipN rs i (mem 35 57 - i).toNat = mem 35 57 := (by rw [hsk, hkN]; exact skip_n); rw [seekT (u := 2) (by decide) hsT]; first | exact ⟨hfs.tr (FS.p _ (by decide)), fun x _ _ => congrFun hz70.1 x, htr.of ⟨hz70.2.1, hz70.2.2.1, hz70.2.2.2⟩, fin_new (by omega) (by rw [hz55.1]; exact hu) (by rw [show (2 : Int) = j by omega]; exact hz74) (by omega)⟩ | exact ⟨FS.p _ (by decide), fun x _ _ => rfl, htr, fin_keep (by omega) hst (by first | (rw [if_pos (by omega)]; omega) | (rw [if_neg (by omega)]; omega))⟩ | (exfalso; omega)⟩
            · have hkN : k = mem 35 57 := by omega
              refine jblk hF [(.aload_n 0, 1), (.iload_n 2, 1)] (by decide +kernel) (pc' := 53) (lo' := [(0, (2, 35)), (1, (0, i)), (2, (0, used)), (3, (0, k))]) (st' := [(0, used), (2, 35)]) rfl ?_
              refine jput hF 13 55 0 55 rfl (by decide) (by decide) rfl wd_1518 (by decide +kernel) rfl (Or.inl rfl) (by exact hS.k35) (fun h => by cases h) ?_
              refine jblk hF [(.aload_n 0, 1), (.iconst 0, 1)] (by decide +kernel) (pc' := 58) (lo' := [(0, (2, 35)), (1, (0, i)), (2, (0, used)), (3, (0, k))]) (st' := [(0, 0), (2, 35)]) rfl ?_
              refine jput hF 13 56 0 56 rfl (by decide) (by decide) rfl wd_1519 (by decide +kernel) rfl (Or.inl rfl) (by exact hS.k35) (fun h => by cases h) ?_
              refine jblk hF [(.iconst 0, 1), (.istore 4, 2)] (by decide +kernel) (pc' := 64) (lo' := [(4, (0, 0)), (0, (2, 35)), (1, (0, i)), (2, (0, used)), (3, (0, k))]) (st' := []) rfl ?_
              have L_35 : ∀ (fu_36 : Nat) (j : Int) (m1 : Int → Int → Int), (0 ≤ j ∧ j ≤ 2) → (SR m1) → (FS mem m1) → (m1 70 = mem 70 ∧ m1 71 = mem 71 ∧ m1 72 = mem 72 ∧ m1 73 = mem 73) → (m1 35 55 = used ∧ m1 35 56 = 0) → (m1 74 = cpN j tl S.2.2.1 ∧ m1 75 = cpN j tc S.2.2.2.1 ∧ m1 76 = cpN j ta S.2.2.2.2) →  (4 - j).toNat < fu_36 → J z g 8 0 0 (QM z g 0 0 (pMV (fun mem' => SR mem' ∧ (FS mem mem' ∧ (∀ x : Int, 0 ≤ x → x < mem 35 57 → mem' 70 x = mem 70 x) ∧ TRY mem' 2 tl tc ta ∧ SKST mem' (seekF (mem 35 57) (mem 35 58) (mem 35 59) 2 rs i tl tc ta S))) kd ln sz)) 64 [(0, (2, 35)), (1, (0, i)), (2, (0, used)), (3, (0, k)), (4, (0, j))] [] kd ln m1 sz := by
                intro fu_36
                induction fu_36 with
                | zero => intro j m1 _ _ _ _ _ _ hm; omega
                | succ fu_36 ih_34 =>
                  intro j m1 hj hR_m1 hfs hz70 hz55 hz74 hm1
                  refine jblk hF [(.iload 4, 2), (.iload_n 2, 1)] (by decide +kernel) (pc' := 67) (lo' := [(0, (2, 35)), (1, (0, i)), (2, (0, used)), (3, (0, k)), (4, (0, j))]) (st' := [(0, used), (0, j)]) rfl ?_
                  refine jicmp_ge hF (off := 51) 118 (by decide +kernel) (by decide) (by omega) (by omega) (fun h_37 => ?_) (fun h_37 => ?_)
                  · refine jblk hF [(.aload_n 0, 1), (.dup, 1)] (by decide +kernel) (pc' := 120) (lo' := [(0, (2, 35)), (1, (0, i)), (2, (0, used)), (3, (0, k)), (4, (0, j))]) (st' := [(2, 35), (2, 35)]) rfl ?_
                    refine jget hF 13 56 0 56 rfl (by decide) (by decide) rfl wd_1519 (by decide +kernel) (by exact hS.k35) ?_
                    refine jblk hF [(.iload_n 2, 1), (.aload_n 0, 1)] (by decide +kernel) (pc' := 125) (lo' := [(0, (2, 35)), (1, (0, i)), (2, (0, used)), (3, (0, k)), (4, (0, j))]) (st' := [(2, 35), (0, used), (0, m1 35 56), (2, 35)]) rfl ?_
                    refine jget hF 13 55 0 55 rfl (by decide) (by decide) rfl wd_1518 (by decide +kernel) (by exact hS.k35) ?_
                    refine jicmp_ne hF (off := 7) 135 (by decide +kernel) (by decide) (by omega) (by omega) (fun h_38 => ?_) (fun h_38 => ?_)
                    · refine jblk hF [(.iconst 0, 1), (.iadd, 1)] (by decide +kernel) (pc' := 137) (lo' := [(0, (2, 35)), (1, (0, i)), (2, (0, used)), (3, (0, k)), (4, (0, j))]) (st' := [(0, (m1 35 56) + 0), (2, 35)]) rfl ?_
                      refine jput hF 13 56 0 56 rfl (by decide) (by decide) rfl wd_1519 (by decide +kernel) rfl (Or.inl rfl) (by exact hS.k35) (fun h => by cases h) ?_
                      refine jvret hF hr (by decide +kernel) ?_
                      exact lMV ⟨(SR.s hR_m1 (Or.inr (by decide))), by have hkN : k = mem 35 57 := (by omega); have hsT : skipN rs i (mem 35 57 - i).toNat = mem 35 57 := (by rw [hsk, hkN]; exact skip_n); rw [seekT (u := 2) (by decide) hsT]; first | exact ⟨hfs.tr (FS.p _ (by decide)), fun x _ _ => congrFun hz70.1 x, htr.of ⟨hz70.2.1, hz70.2.2.1, hz70.2.2.2⟩, fin_new (by omega) (by rw [hz55.1]; exact hu) (by rw [show (2 : Int) = j by omega]; exact hz74) (by omega)⟩ | exact ⟨FS.p _ (by decide), fun x _ _ => rfl, htr, fin_keep (by omega) hst (by first | (rw [if_pos (by omega)]; omega) | (rw [if_neg (by omega)]; omega))⟩ | (exfalso; omega)⟩
                    · refine jblk hF [(.iconst 1, 1)] (by decide +kernel) (pc' := 132) (lo' := [(0, (2, 35)), (1, (0, i)), (2, (0, used)), (3, (0, k)), (4, (0, j))]) (st' := [(0, 1), (0, m1 35 56), (2, 35)]) rfl ?_
                      refine jgoto hF (off := 4) 136 (by decide +kernel) (by decide) ?_
                      refine jblk hF [(.iadd, 1)] (by decide +kernel) (pc' := 137) (lo' := [(0, (2, 35)), (1, (0, i)), (2, (0, used)), (3, (0, k)), (4, (0, j))]) (st' := [(0, (m1 35 56) + 1), (2, 35)]) rfl ?_
                      refine jput hF 13 56 0 56 rfl (by decide) (by decide) rfl wd_1519 (by decide +kernel) rfl (Or.inl rfl) (by exact hS.k35) (fun h => by cases h) ?_
                      refine jvret hF hr (by decide +kernel) ?_
                      exact lMV ⟨(SR.s hR_m1 (Or.inr (by decide))), by have hkN : k = mem 35 57 := (by omega); have hsT : skipN rs i (mem 35 57 - i).toNat = mem 35 57 := (by rw [hsk, hkN]; exact skip_n); rw [seekT (u := 2) (by decide) hsT]; first | exact ⟨hfs.tr (FS.p _ (by decide)), fun x _ _ => congrFun hz70.1 x, htr.of ⟨hz70.2.1, hz70.2.2.1, hz70.2.2.2⟩, fin_new (by omega) (by rw [hz55.1]; exact hu) (by rw [show (2 : Int) = j by omega]; exact hz74) (by omega)⟩ | exact ⟨FS.p _ (by decide), fun x _ _ => rfl, htr, fin_keep (by omega) hst (by first | (rw [if_pos (by omega)]; omega) | (rw [if_neg (by omega)]; omega))⟩ | (exfalso; omega)⟩
                  · refine jblk hF [(.aload_n 0, 1)] (by decide +kernel) (pc' := 71) (lo' := [(0, (2, 35)), (1, (0, i)), (2, (0, used)), (3, (0, k)), (4, (0, j))]) (st' := [(2, 35)]) rfl ?_
                    refine jget hF 13 52 2 52 rfl (by decide) (by decide) rfl wd_1515 (by decide +kernel) (by exact hS.k35) ?_
                    rw [SR.r52 hR_m1]
                    refine jblk hF [(.iload 4, 2), (.aload_n 0, 1)] (by decide +kernel) (pc' := 77) (lo' := [(0, (2, 35)), (1, (0, i)), (2, (0, used)), (3, (0, k)), (4, (0, j))]) (st' := [(2, 35), (0, j), (2, 74)]) rfl ?_
                    refine jget hF 13 49 2 49 rfl (by decide) (by decide) rfl wd_1512 (by decide +kernel) (by exact hS.k35) ?_
                    rw [SR.r49 hR_m1]
                    refine jblk hF [(.iload 4, 2)] (by decide +kernel) (pc' := 82) (lo' := [(0, (2, 35)), (1, (0, i)), (2, (0, used)), (3, (0, k)), (4, (0, j))]) (st' := [(0, j), (2, 71), (0, j), (2, 74)]) rfl ?_
                    refine jiald hF (by decide +kernel) (by exact hS.k71) (by omega) (by have := hS.l71; omega) ?_
                    refine jiast hF (by decide +kernel) (by decide) (by exact hS.k74) (by omega) (by have := hS.l74; omega) ?_
                    refine jblk hF [(.aload_n 0, 1)] (by decide +kernel) (pc' := 85) (lo' := [(0, (2, 35)), (1, (0, i)), (2, (0, used)), (3, (0, k)), (4, (0, j))]) (st' := [(2, 35)]) rfl ?_
                    refine jget hF 13 53 2 53 rfl (by decide) (by decide) rfl wd_1516 (by decide +kernel) (by exact hS.k35) ?_
                    rw [SR.r53 (SR.s hR_m1 (Or.inl (by decide)))]
                    refine jblk hF [(.iload 4, 2), (.aload_n 0, 1)] (by decide +kernel) (pc' := 91) (lo' := [(0, (2, 35)), (1, (0, i)), (2, (0, used)), (3, (0, k)), (4, (0, j))]) (st' := [(2, 35), (0, j), (2, 75)]) rfl ?_
                    refine jget hF 13 50 2 50 rfl (by decide) (by decide) rfl wd_1513 (by decide +kernel) (by exact hS.k35) ?_
                    rw [SR.r50 (SR.s hR_m1 (Or.inl (by decide)))]
                    refine jblk hF [(.iload 4, 2)] (by decide +kernel) (pc' := 96) (lo' := [(0, (2, 35)), (1, (0, i)), (2, (0, used)), (3, (0, k)), (4, (0, j))]) (st' := [(0, j), (2, 72), (0, j), (2, 75)]) rfl ?_
                    refine jiald hF (by decide +kernel) (by exact hS.k72) (by omega) (by have := hS.l72; omega) ?_
                    rw [show (set2 m1 74 j (m1 71 j)) 72 j = m1 72 j from (s2_a (by decide))]
                    refine jiast hF (by decide +kernel) (by decide) (by exact hS.k75) (by omega) (by have := hS.l75; omega) ?_
                    refine jblk hF [(.aload_n 0, 1)] (by decide +kernel) (pc' := 99) (lo' := [(0, (2, 35)), (1, (0, i)), (2, (0, used)), (3, (0, k)), (4, (0, j))]) (st' := [(2, 35)]) rfl ?_
                    refine jget hF 13 54 2 54 rfl (by decide) (by decide) rfl wd_1517 (by decide +kernel) (by exact hS.k35) ?_
                    rw [SR.r54 (SR.s (SR.s hR_m1 (Or.inl (by decide))) (Or.inl (by decide)))]
                    refine jblk hF [(.iload 4, 2), (.aload_n 0, 1)] (by decide +kernel) (pc' := 105) (lo' := [(0, (2, 35)), (1, (0, i)), (2, (0, used)), (3, (0, k)), (4, (0, j))]) (st' := [(2, 35), (0, j), (2, 76)]) rfl ?_
                    refine jget hF 13 51 2 51 rfl (by decide) (by decide) rfl wd_1514 (by decide +kernel) (by exact hS.k35) ?_
                    rw [SR.r51 (SR.s (SR.s hR_m1 (Or.inl (by decide))) (Or.inl (by decide)))]
                    refine jblk hF [(.iload 4, 2)] (by decide +kernel) (pc' := 110) (lo' := [(0, (2, 35)), (1, (0, i)), (2, (0, used)), (3, (0, k)), (4, (0, j))]) (st' := [(0, j), (2, 73), (0, j), (2, 76)]) rfl ?_
                    refine jlald hF (by decide +kernel) (by exact hS.k73) (by omega) (by have := hS.l73; omega) ?_
                    rw [show (set2 (set2 m1 74 j (m1 71 j)) 75 j (m1 72 j)) 73 j = m1 73 j from ((s2_a (by decide)).trans (s2_a (by decide)))]
                    refine jlast hF (by decide +kernel) (by decide) (by exact hS.k76) (by omega) (by have := hS.l76; omega) ?_
                    refine jblk hF [(.iinc 4 1, 3)] (by decide +kernel) (pc' := 115) (lo' := [(4, (0, j + 1)), (0, (2, 35)), (1, (0, i)), (2, (0, used)), (3, (0, k))]) (st' := []) rfl ?_
                    refine jgoto hF (off := (-51)) 64 (by decide +kernel) (by decide) ?_
                    refine jsub [1, 2, 3, 4, 0] rfl ?_
                    refine ih_34 (j + 1) (set2 (set2 (set2 m1 74 j (m1 71 j)) 75 j (m1 72 j)) 76 j (m1 73 j)) ?_ ?_ ?_ ?_ ?_ ?_ ?_
                    · omega
                    · exact ((hR_m1.s (Or.inl (by decide))).s (Or.inl (by decide))).s (Or.inl (by decide))
                    · exact ((hfs.tr (FS.s _ _ (by decide))).tr (FS.s _ _ (by decide))).tr (FS.s _ _ (by decide))
                    · exact ⟨hz70.1, hz70.2.1, hz70.2.2.1, hz70.2.2.2⟩
                    · exact hz55
                    · have h9 := htr j (by omega) (by omega); exact cp3 (by omega) hz74 ⟨by rw [hz70.2.1]; exact h9.1, by rw [hz70.2.2.1]; exact h9.2.1, by rw [hz70.2.2.2]; exact h9.2.2⟩
                    · omega
              refine jsub [1, 2, 3, 4, 0] rfl ?_
              refine L_35 _ 0 (set2 (set2 mem 35 55 used) 35 56 0) ?_ ?_ ?_ ?_ ?_ ?_ (Nat.lt_succ_self _)
              · omega
              · exact (hR.s (Or.inr (by decide))).s (Or.inr (by decide))
              · exact (FS.p _ (by decide)).tr (FS.p _ (by decide))
              · exact ⟨rfl, rfl, rfl, rfl⟩
              · exact ⟨by rw [s2_k (by decide), s2_s], by rw [s2_s]⟩
              · exact ⟨cpN_0 hst.2.2.1, cpN_0 hst.2.2.2.1, cpN_0 hst.2.2.2.2⟩
      · refine jblk hF [(.aload_n 0, 1)] (by decide +kernel) (pc' := 11) (lo' := [(0, (2, 35)), (1, (0, i)), (2, (0, used)), (3, (0, k))]) (st' := [(2, 35)]) rfl ?_
        refine jget hF 13 48 2 48 rfl (by decide) (by decide) rfl wd_1511 (by decide +kernel) (by exact hS.k35) ?_
        rw [SR.r48 hR]
        refine jblk hF [(.iload_n 3, 1)] (by decide +kernel) (pc' := 15) (lo' := [(0, (2, 35)), (1, (0, i)), (2, (0, used)), (3, (0, k))]) (st' := [(0, k), (2, 70)]) rfl ?_
        refine jlald hF (by decide +kernel) (by exact hS.k70) (by omega) (by have := hS.l70; omega) ?_
        refine jlconst hF (n := 0) 0 rfl (by decide +kernel) ?_
        refine jlcmpW_ne hF (off := 9) 27 (by decide +kernel) (by decide +kernel) (by decide) (fun h_39 => ?_) (fun h_39 => ?_)
        · refine jblk hF [(.iload_n 3, 1), (.aload_n 0, 1)] (by decide +kernel) (pc' := 29) (lo' := [(0, (2, 35)), (1, (0, i)), (2, (0, used)), (3, (0, k))]) (st' := [(2, 35), (0, k)]) rfl ?_
          refine jget hF 13 57 0 57 rfl (by decide) (by decide) rfl wd_1520 (by decide +kernel) (by exact hS.k35) ?_
          refine jicmp_ne hF (off := 109) 141 (by decide +kernel) (by decide) (by omega) (by omega) (fun h_40 => ?_) (fun h_40 => ?_)
          · refine jblk hF [(.iload_n 2, 1), (.iconst 4, 1)] (by decide +kernel) (pc' := 143) (lo' := [(0, (2, 35)), (1, (0, i)), (2, (0, used)), (3, (0, k))]) (st' := [(0, 4), (0, used)]) rfl ?_
            refine jicmp_ne hF (off := 4) 147 (by decide +kernel) (by decide) (by omega) (by decide) (fun h_41 => ?_) (fun h_41 => ?_)
            · have hrk2 := hrk (by omega)
              have hske : skipN rs i (mem 35 57 - i).toNat = k := by rw [hsk]; exact skip_e (by omega) (by rw [← hrk2]; first | assumption | omega)
              obtain ⟨FF, hFF⟩ : ∃ FF : Int → ST → ST, FF = (fun c => seekF (mem 35 57) (mem 35 58) (mem 35 59) 1 (markJ (mem 35 57) rs k (tmC (mem 35 58) c) (-(rs k)) (tmC (mem 35 58) c + 1)) (k + 1) (upI tl 2 (mem 35 59 + k)) (upI tc 2 (coC (mem 35 58) c)) (upI ta 2 (rs k))) := ⟨_, rfl⟩
              have hFFa := fun (c9 : Int) (S9 : ST) => congrFun (congrFun hFF c9) S9
              have hSBF := fun (rs : Int → Int) (i : Int) (tl tc ta : Int → Int) (S : ST) (h : SB S) => (seekF_bd (N := mem 35 57) (o := mem 35 58) (h := mem 35 59) 1 (by decide) rs i tl tc ta S h).1
              refine jblk hF [(.aload_n 0, 1)] (by decide +kernel) (pc' := 148) (lo' := [(0, (2, 35)), (1, (0, i)), (2, (0, used)), (3, (0, k))]) (st' := [(2, 35)]) rfl ?_
              refine jget hF 13 48 2 48 rfl (by decide) (by decide) rfl wd_1511 (by decide +kernel) (by exact hS.k35) ?_
              rw [SR.r48 hR]
              refine jblk hF [(.iload_n 3, 1)] (by decide +kernel) (pc' := 152) (lo' := [(0, (2, 35)), (1, (0, i)), (2, (0, used)), (3, (0, k))]) (st' := [(0, k), (2, 70)]) rfl ?_
              refine jlald hF (by decide +kernel) (by exact hS.k70) (by omega) (by have := hS.l70; omega) ?_
              refine jblk hF [(.lstore 4, 2), (.iconst 0, 1), (.istore 6, 2)] (by decide +kernel) (pc' := 158) (lo' := [(6, (0, 0)), (4, (1, mem 70 k)), (0, (2, 35)), (1, (0, i)), (2, (0, used)), (3, (0, k))]) (st' := []) rfl ?_
              have L_43 : ∀ (fu_44 : Nat) (c : Int) (m2 : Int → Int → Int), (0 ≤ c ∧ c ≤ mem 35 58 + 1) → (SR m2) → (FS mem m2) → (∀ x : Int, 0 ≤ x → x < mem 35 57 → m2 70 x = rs x) → (TRY m2 2 tl tc ta) → (SKST m2 (foldC FF c.toNat S)) → (SB (foldC FF c.toNat S)) →  (mem 35 58 + 1 - c).toNat < fu_44 → J z g 8 0 0 (QM z g 0 0 (pMV (fun mem' => SR mem' ∧ (FS mem mem' ∧ (∀ x : Int, 0 ≤ x → x < mem 35 57 → mem' 70 x = mem 70 x) ∧ TRY mem' 2 tl tc ta ∧ SKST mem' (seekF (mem 35 57) (mem 35 58) (mem 35 59) 2 rs i tl tc ta S))) kd ln sz)) 158 [(0, (2, 35)), (1, (0, i)), (2, (0, used)), (3, (0, k)), (4, (1, mem 70 k)), (6, (0, c))] [] kd ln m2 sz := by
                intro fu_44
                induction fu_44 with
                | zero => intro c m2 _ _ _ _ _ _ _ hm; omega
                | succ fu_44 ih_42 =>
                  intro c m2 hc hR_m2 hfs2 hz70b htr2 hst2 hsb2 hm2
                  have f57 : m2 35 57 = mem 35 57 := hfs2 35 57 (by decide) (by decide) (by decide) (by decide) (by decide) (by decide) (by decide) (by decide)
                  have f58 : m2 35 58 = mem 35 58 := hfs2 35 58 (by decide) (by decide) (by decide) (by decide) (by decide) (by decide) (by decide) (by decide)
                  have f59 : m2 35 59 = mem 35 59 := hfs2 35 59 (by decide) (by decide) (by decide) (by decide) (by decide) (by decide) (by decide) (by decide)
                  refine jblk hF [(.iload 6, 2), (.aload_n 0, 1)] (by decide +kernel) (pc' := 161) (lo' := [(0, (2, 35)), (1, (0, i)), (2, (0, used)), (3, (0, k)), (4, (1, mem 70 k)), (6, (0, c))]) (st' := [(2, 35), (0, c)]) rfl ?_
                  refine jget hF 13 58 0 58 rfl (by decide) (by decide) rfl wd_1521 (by decide +kernel) (by exact hS.k35) ?_
                  refine jicmp_gt hF (off := 107) 271 (by decide +kernel) (by decide) (by omega) (by omega) (fun h_45 => ?_) (fun h_45 => ?_)
                  · refine jvret hF hr (by decide +kernel) ?_
                    exact lMV ⟨hR_m2, by exact ⟨hfs2, fun x h1 h2 => by rw [hz70b x h1 h2, hrs x h1 h2], htr2, by rw [show (2 : Nat) = 1 + 1 from rfl, seekL (u := 2) (by decide) hske (by omega), ← hFF, show (mem 35 58 + 1).toNat = c.toNat by omega]; exact hst2⟩⟩
                  · refine jblk hF [(.iload 6, 2), (.aload_n 0, 1)] (by decide +kernel) (pc' := 170) (lo' := [(0, (2, 35)), (1, (0, i)), (2, (0, used)), (3, (0, k)), (4, (1, mem 70 k)), (6, (0, c))]) (st' := [(2, 35), (0, c)]) rfl ?_
                    refine jget hF 13 58 0 58 rfl (by decide) (by decide) rfl wd_1521 (by decide +kernel) (by exact hS.k35) ?_
                    refine jicmp_ne hF (off := 12) 185 (by decide +kernel) (by decide) (by omega) (by omega) (fun h_46 => ?_) (fun h_46 => ?_)
                    · refine jblk hF [(.aload_n 0, 1)] (by decide +kernel) (pc' := 186) (lo' := [(0, (2, 35)), (1, (0, i)), (2, (0, used)), (3, (0, k)), (4, (1, mem 70 k)), (6, (0, c))]) (st' := [(2, 35)]) rfl ?_
                      refine jget hF 13 58 0 58 rfl (by decide) (by decide) rfl wd_1521 (by decide +kernel) (by exact hS.k35) ?_
                      refine jblk hF [(.iload 6, 2), (.isub, 1), (.istore 7, 2)] (by decide +kernel) (pc' := 194) (lo' := [(7, (0, (m2 35 58) - c)), (0, (2, 35)), (1, (0, i)), (2, (0, used)), (3, (0, k)), (4, (1, mem 70 k)), (6, (0, c))]) (st' := []) rfl ?_
                      have hT : ((m2 35 58) - c) = tmC (mem 35 58) c := by unfold tmC; first | (rw [if_pos (by omega)]; omega) | (rw [if_neg (by omega)]; omega)
                      have hT5 : 0 ≤ tmC (mem 35 58) c ∧ tmC (mem 35 58) c ≤ 5 := by omega
                      refine jblk hF [(.aload_n 0, 1), (.iload_n 3, 1), (.iload 7, 2), (.lload 4, 2), (.lneg, 1)] (by decide +kernel) (pc' := 201) (lo' := [(7, (0, (m2 35 58) - c)), (0, (2, 35)), (1, (0, i)), (2, (0, used)), (3, (0, k)), (4, (1, mem 70 k)), (6, (0, c))]) (st' := [(1, -(mem 70 k)), (0, (m2 35 58) - c), (0, k), (2, 35)]) rfl ?_
                      refine jcallV hF (c_X12_mark hG hS hR_m2 k ((m2 35 58) - c) (-(mem 70 k)) (by omega) (by omega) (by first | omega | (rw [e57]; omega))) MW_X12_mark 13 (by decide) (by exact hS.k35) wd_2121 wd_2123 wd_p97 (by decide +kernel) [] rfl rfl (by decide) (Nat.le_of_ble_eq_true rfl) (by decide) (kMV (fun m_47 h_48 => ?_))
                      obtain ⟨hR_m_47, h_48⟩ := h_48
                      have hb9 := h_48.1
                      have hx9 := h_48.2
                      have j58 := hb9 35 58 (by decide)
                      have j59 := hb9 35 59 (by decide)
                      refine jblk hF [(.aload_n 0, 1)] (by decide +kernel) (pc' := 205) (lo' := [(7, (0, (m2 35 58) - c)), (0, (2, 35)), (1, (0, i)), (2, (0, used)), (3, (0, k)), (4, (1, mem 70 k)), (6, (0, c))]) (st' := [(2, 35)]) rfl ?_
                      refine jget hF 13 49 2 49 rfl (by decide) (by decide) rfl wd_1512 (by decide +kernel) (by exact hS.k35) ?_
                      rw [SR.r49 hR_m_47]
                      refine jblk hF [(.iload_n 2, 1), (.aload_n 0, 1)] (by decide +kernel) (pc' := 210) (lo' := [(7, (0, (m2 35 58) - c)), (0, (2, 35)), (1, (0, i)), (2, (0, used)), (3, (0, k)), (4, (1, mem 70 k)), (6, (0, c))]) (st' := [(2, 35), (0, used), (2, 71)]) rfl ?_
                      refine jget hF 13 59 0 59 rfl (by decide) (by decide) rfl wd_1522 (by decide +kernel) (by exact hS.k35) ?_
                      refine jblk hF [(.iload_n 3, 1), (.iadd, 1)] (by decide +kernel) (pc' := 215) (lo' := [(7, (0, (m2 35 58) - c)), (0, (2, 35)), (1, (0, i)), (2, (0, used)), (3, (0, k)), (4, (1, mem 70 k)), (6, (0, c))]) (st' := [(0, (m_47 35 59) + k), (0, used), (2, 71)]) rfl ?_
                      refine jiast hF (by decide +kernel) (by decide) (by exact hS.k71) (by omega) (by have := hS.l71; omega) ?_
                      refine jblk hF [(.aload_n 0, 1)] (by decide +kernel) (pc' := 217) (lo' := [(7, (0, (m2 35 58) - c)), (0, (2, 35)), (1, (0, i)), (2, (0, used)), (3, (0, k)), (4, (1, mem 70 k)), (6, (0, c))]) (st' := [(2, 35)]) rfl ?_
                      refine jget hF 13 50 2 50 rfl (by decide) (by decide) rfl wd_1513 (by decide +kernel) (by exact hS.k35) ?_
                      rw [SR.r50 (SR.s hR_m_47 (Or.inl (by decide)))]
                      refine jblk hF [(.iload_n 2, 1), (.iload 6, 2), (.aload_n 0, 1)] (by decide +kernel) (pc' := 224) (lo' := [(7, (0, (m2 35 58) - c)), (0, (2, 35)), (1, (0, i)), (2, (0, used)), (3, (0, k)), (4, (1, mem 70 k)), (6, (0, c))]) (st' := [(2, 35), (0, c), (0, used), (2, 72)]) rfl ?_
                      refine jget hF 13 58 0 58 rfl (by decide) (by decide) rfl wd_1521 (by decide +kernel) (by exact hS.k35) ?_
                      rw [show (set2 m_47 71 used ((m_47 35 59) + k)) 35 58 = m_47 35 58 from (s2_a (by decide))]
                      refine jicmp_ne hF (off := 8) 235 (by decide +kernel) (by decide) (by omega) (by omega) (fun _ => ?_) (fun h => absurd h (by omega))
                      refine jblk hF [(.iload 6, 2)] (by decide +kernel) (pc' := 237) (lo' := [(7, (0, (m2 35 58) - c)), (0, (2, 35)), (1, (0, i)), (2, (0, used)), (3, (0, k)), (4, (1, mem 70 k)), (6, (0, c))]) (st' := [(0, c), (0, used), (2, 72)]) rfl ?_
                      have hCo : c = coC (mem 35 58) c := by unfold coC; first | exact (if_pos (by omega)).symm | exact (if_neg (by omega)).symm
                      refine jiast hF (by decide +kernel) (by decide) (by exact hS.k72) (by omega) (by have := hS.l72; omega) ?_
                      refine jblk hF [(.aload_n 0, 1)] (by decide +kernel) (pc' := 239) (lo' := [(7, (0, (m2 35 58) - c)), (0, (2, 35)), (1, (0, i)), (2, (0, used)), (3, (0, k)), (4, (1, mem 70 k)), (6, (0, c))]) (st' := [(2, 35)]) rfl ?_
                      refine jget hF 13 51 2 51 rfl (by decide) (by decide) rfl wd_1514 (by decide +kernel) (by exact hS.k35) ?_
                      rw [SR.r51 (SR.s (SR.s hR_m_47 (Or.inl (by decide))) (Or.inl (by decide)))]
                      refine jblk hF [(.iload_n 2, 1), (.lload 4, 2)] (by decide +kernel) (pc' := 245) (lo' := [(7, (0, (m2 35 58) - c)), (0, (2, 35)), (1, (0, i)), (2, (0, used)), (3, (0, k)), (4, (1, mem 70 k)), (6, (0, c))]) (st' := [(1, mem 70 k), (0, used), (2, 73)]) rfl ?_
                      refine jlast hF (by decide +kernel) (by decide) (by exact hS.k73) (by omega) (by have := hS.l73; omega) ?_
                      have hfs9 : FS mem (set2 (set2 (set2 m_47 71 used ((m_47 35 59) + k)) 72 used c) 73 used (mem 70 k)) := ((hfs2.tr (FS.of70 hb9)).tr (FS.s _ _ (by decide))).tr ((FS.s _ _ (by decide)).tr (FS.s _ _ (by decide)))
                      have g57 : (set2 (set2 (set2 m_47 71 used ((m_47 35 59) + k)) 72 used c) 73 used (mem 70 k)) 35 57 = mem 35 57 := hfs9 35 57 (by decide) (by decide) (by decide) (by decide) (by decide) (by decide) (by decide) (by decide)
                      have g58 : (set2 (set2 (set2 m_47 71 used ((m_47 35 59) + k)) 72 used c) 73 used (mem 70 k)) 35 58 = mem 35 58 := hfs9 35 58 (by decide) (by decide) (by decide) (by decide) (by decide) (by decide) (by decide) (by decide)
                      have g59 : (set2 (set2 (set2 m_47 71 used ((m_47 35 59) + k)) 72 used c) 73 used (mem 70 k)) 35 59 = mem 35 59 := hfs9 35 59 (by decide) (by decide) (by decide) (by decide) (by decide) (by decide) (by decide) (by decide)
                      have hrs9 : ∀ x : Int, 0 ≤ x → x < mem 35 57 → (set2 (set2 (set2 m_47 71 used ((m_47 35 59) + k)) 72 used c) 73 used (mem 70 k)) 70 x = markJ (mem 35 57) rs k (tmC (mem 35 58) c) (-(rs k)) (tmC (mem 35 58) c + 1) x := fun x h1 h2 => by rw [s2_a (by decide), s2_a (by decide), s2_a (by decide), hx9 x, hT, f57, hrk2]; exact markJ_congr hz70b x h1 h2
                      have htr9 : TRY (set2 (set2 (set2 m_47 71 used ((m_47 35 59) + k)) 72 used c) 73 used (mem 70 k)) 3 (upI tl 2 (mem 35 59 + k)) (upI tc 2 (coC (mem 35 58) c)) (upI ta 2 (rs k)) := by rw [hu]; exact try_up (htr2.of ⟨funext fun j => hb9 71 j (by decide), funext fun j => hb9 72 j (by decide), funext fun j => hb9 73 j (by decide)⟩) (by omega) hCo hrk2
                      have hst9 : SKST (set2 (set2 (set2 m_47 71 used ((m_47 35 59) + k)) 72 used c) 73 used (mem 70 k)) (foldC FF c.toNat S) := hst2.of (fun a j q1 q2 q3 q4 => by rw [s2_a q4, s2_a q3, s2_a q2, hb9 a j q1])
                      refine jblk hF [(.aload_n 0, 1), (.iload_n 3, 1), (.iconst 1, 1), (.iadd, 1), (.iload_n 2, 1), (.iconst 1, 1), (.iadd, 1)] (by decide +kernel) (pc' := 253) (lo' := [(7, (0, (m2 35 58) - c)), (0, (2, 35)), (1, (0, i)), (2, (0, used)), (3, (0, k)), (4, (1, mem 70 k)), (6, (0, c))]) (st' := [(0, used + 1), (0, k + 1), (2, 35)]) rfl ?_
                      refine jcallV hF (c_seek3 hG hS (SR.s (SR.s (SR.s hR_m_47 (Or.inl (by decide))) (Or.inl (by decide))) (Or.inl (by decide))) (k + 1) (used + 1) (by exact (markJ (mem 35 57) rs k (tmC (mem 35 58) c) (-(rs k)) (tmC (mem 35 58) c + 1))) (by exact (upI tl 2 (mem 35 59 + k))) (by exact (upI tc 2 (coC (mem 35 58) c))) (by exact (upI ta 2 (rs k))) (by exact (foldC FF c.toNat S)) (by omega) (by first | omega | (rw [g57]; omega) | (rw [g58]; omega) | (rw [g59]; omega)) (by first | omega | (rw [g57]; omega) | (rw [g58]; omega) | (rw [g59]; omega)) (by first | omega | (rw [g57]; omega) | (rw [g58]; omega) | (rw [g59]; omega)) (by first | omega | (rw [g57]; omega) | (rw [g58]; omega) | (rw [g59]; omega)) (by rw [g57]; exact hrs9) (by exact htr9) (by exact hst9) (by exact hsb2)) MW_X12_seek 13 (by decide) (by exact hS.k35) wd_2117 wd_2119 wd_p96 (by decide +kernel) [] rfl rfl (by decide) (Nat.le_of_ble_eq_true rfl) (by decide) (kMV (fun m_50 h_51 => ?_))
                      obtain ⟨hR_m_50, h_51⟩ := h_51
                      obtain ⟨hfs8, hz8, htr8, hst8⟩ := h_51
                      rw [g57] at hz8
                      rw [g57, g58, g59] at hst8
                      have i57 : m_50 35 57 = mem 35 57 := (hfs9.tr hfs8) 35 57 (by decide) (by decide) (by decide) (by decide) (by decide) (by decide) (by decide) (by decide)
                      refine jblk hF [(.aload_n 0, 1), (.iload_n 3, 1), (.iload 7, 2), (.lload 4, 2)] (by decide +kernel) (pc' := 262) (lo' := [(7, (0, (m2 35 58) - c)), (0, (2, 35)), (1, (0, i)), (2, (0, used)), (3, (0, k)), (4, (1, mem 70 k)), (6, (0, c))]) (st' := [(1, mem 70 k), (0, (m2 35 58) - c), (0, k), (2, 35)]) rfl ?_
                      refine jcallV hF (c_X12_mark hG hS hR_m_50 k ((m2 35 58) - c) (mem 70 k) (by omega) (by omega) (by first | omega | (rw [e57]; omega))) MW_X12_mark 13 (by decide) (by exact hS.k35) wd_2121 wd_2123 wd_p97 (by decide +kernel) [] rfl rfl (by decide) (Nat.le_of_ble_eq_true rfl) (by decide) (kMV (fun m_52 h_53 => ?_))
                      obtain ⟨hR_m_52, h_53⟩ := h_53
                      have hfs3 : FS mem m_52 := (hfs9.tr hfs8).tr (FS.of70 h_53.1)
                      have hz3 : ∀ x : Int, 0 ≤ x → x < mem 35 57 → m_52 70 x = rs x := fun x h1 h2 => by rw [h_53.2 x, hT, i57, hrk2, markJ_congr (fun y h1 h2 => (hz8 y h1 h2).trans (hrs9 y h1 h2)) x h1 h2]; exact markJ_back x
                      have htr3 : TRY m_52 2 tl tc ta := (try_dn (u := 2) htr8).of ⟨funext fun j => h_53.1 71 j (by decide), funext fun j => h_53.1 72 j (by decide), funext fun j => h_53.1 73 j (by decide)⟩
                      have hst3 : SKST m_52 (FF c (foldC FF c.toNat S)) := by rw [hFFa]; exact hst8.of (fun a j q1 _ _ _ => h_53.1 a j q1)
                      refine jblk hF [(.iinc 6 1, 3)] (by decide +kernel) (pc' := 268) (lo' := [(6, (0, c + 1)), (7, (0, (m2 35 58) - c)), (0, (2, 35)), (1, (0, i)), (2, (0, used)), (3, (0, k)), (4, (1, mem 70 k))]) (st' := []) rfl ?_
                      refine jgoto hF (off := (-110)) 158 (by decide +kernel) (by decide) ?_
                      refine jsub [2, 3, 4, 5, 6, 0] rfl ?_
                      refine ih_42 (c + 1) m_52 ?_ ?_ ?_ ?_ ?_ ?_ ?_ ?_
                      · omega
                      · assumption
                      · exact hfs3
                      · exact hz3
                      · exact htr3
                      · rw [foldC_s (by omega)]; exact hst3
                      · rw [foldC_s (by omega), hFFa]; exact hSBF _ _ _ _ _ _ hsb2
                      · omega
                    · refine jblk hF [(.aload_n 0, 1)] (by decide +kernel) (pc' := 177) (lo' := [(0, (2, 35)), (1, (0, i)), (2, (0, used)), (3, (0, k)), (4, (1, mem 70 k)), (6, (0, c))]) (st' := [(2, 35)]) rfl ?_
                      refine jget hF 13 58 0 58 rfl (by decide) (by decide) rfl wd_1521 (by decide +kernel) (by exact hS.k35) ?_
                      refine jblk hF [(.iconst 1, 1), (.iadd, 1)] (by decide +kernel) (pc' := 182) (lo' := [(0, (2, 35)), (1, (0, i)), (2, (0, used)), (3, (0, k)), (4, (1, mem 70 k)), (6, (0, c))]) (st' := [(0, (m2 35 58) + 1)]) rfl ?_
                      refine jgoto hF (off := 10) 192 (by decide +kernel) (by decide) ?_
                      refine jblk hF [(.istore 7, 2)] (by decide +kernel) (pc' := 194) (lo' := [(7, (0, (m2 35 58) + 1)), (0, (2, 35)), (1, (0, i)), (2, (0, used)), (3, (0, k)), (4, (1, mem 70 k)), (6, (0, c))]) (st' := []) rfl ?_
                      have hT : ((m2 35 58) + 1) = tmC (mem 35 58) c := by unfold tmC; first | (rw [if_pos (by omega)]; omega) | (rw [if_neg (by omega)]; omega)
                      have hT5 : 0 ≤ tmC (mem 35 58) c ∧ tmC (mem 35 58) c ≤ 5 := by omega
                      refine jblk hF [(.aload_n 0, 1), (.iload_n 3, 1), (.iload 7, 2), (.lload 4, 2), (.lneg, 1)] (by decide +kernel) (pc' := 201) (lo' := [(7, (0, (m2 35 58) + 1)), (0, (2, 35)), (1, (0, i)), (2, (0, used)), (3, (0, k)), (4, (1, mem 70 k)), (6, (0, c))]) (st' := [(1, -(mem 70 k)), (0, (m2 35 58) + 1), (0, k), (2, 35)]) rfl ?_
                      refine jcallV hF (c_X12_mark hG hS hR_m2 k ((m2 35 58) + 1) (-(mem 70 k)) (by omega) (by omega) (by first | omega | (rw [e57]; omega))) MW_X12_mark 13 (by decide) (by exact hS.k35) wd_2121 wd_2123 wd_p97 (by decide +kernel) [] rfl rfl (by decide) (Nat.le_of_ble_eq_true rfl) (by decide) (kMV (fun m_54 h_55 => ?_))
                      obtain ⟨hR_m_54, h_55⟩ := h_55
                      have hb9 := h_55.1
                      have hx9 := h_55.2
                      have j58 := hb9 35 58 (by decide)
                      have j59 := hb9 35 59 (by decide)
                      refine jblk hF [(.aload_n 0, 1)] (by decide +kernel) (pc' := 205) (lo' := [(7, (0, (m2 35 58) + 1)), (0, (2, 35)), (1, (0, i)), (2, (0, used)), (3, (0, k)), (4, (1, mem 70 k)), (6, (0, c))]) (st' := [(2, 35)]) rfl ?_
                      refine jget hF 13 49 2 49 rfl (by decide) (by decide) rfl wd_1512 (by decide +kernel) (by exact hS.k35) ?_
                      rw [SR.r49 hR_m_54]
                      refine jblk hF [(.iload_n 2, 1), (.aload_n 0, 1)] (by decide +kernel) (pc' := 210) (lo' := [(7, (0, (m2 35 58) + 1)), (0, (2, 35)), (1, (0, i)), (2, (0, used)), (3, (0, k)), (4, (1, mem 70 k)), (6, (0, c))]) (st' := [(2, 35), (0, used), (2, 71)]) rfl ?_
                      refine jget hF 13 59 0 59 rfl (by decide) (by decide) rfl wd_1522 (by decide +kernel) (by exact hS.k35) ?_
                      refine jblk hF [(.iload_n 3, 1), (.iadd, 1)] (by decide +kernel) (pc' := 215) (lo' := [(7, (0, (m2 35 58) + 1)), (0, (2, 35)), (1, (0, i)), (2, (0, used)), (3, (0, k)), (4, (1, mem 70 k)), (6, (0, c))]) (st' := [(0, (m_54 35 59) + k), (0, used), (2, 71)]) rfl ?_
                      refine jiast hF (by decide +kernel) (by decide) (by exact hS.k71) (by omega) (by have := hS.l71; omega) ?_
                      refine jblk hF [(.aload_n 0, 1)] (by decide +kernel) (pc' := 217) (lo' := [(7, (0, (m2 35 58) + 1)), (0, (2, 35)), (1, (0, i)), (2, (0, used)), (3, (0, k)), (4, (1, mem 70 k)), (6, (0, c))]) (st' := [(2, 35)]) rfl ?_
                      refine jget hF 13 50 2 50 rfl (by decide) (by decide) rfl wd_1513 (by decide +kernel) (by exact hS.k35) ?_
                      rw [SR.r50 (SR.s hR_m_54 (Or.inl (by decide)))]
                      refine jblk hF [(.iload_n 2, 1), (.iload 6, 2), (.aload_n 0, 1)] (by decide +kernel) (pc' := 224) (lo' := [(7, (0, (m2 35 58) + 1)), (0, (2, 35)), (1, (0, i)), (2, (0, used)), (3, (0, k)), (4, (1, mem 70 k)), (6, (0, c))]) (st' := [(2, 35), (0, c), (0, used), (2, 72)]) rfl ?_
                      refine jget hF 13 58 0 58 rfl (by decide) (by decide) rfl wd_1521 (by decide +kernel) (by exact hS.k35) ?_
                      rw [show (set2 m_54 71 used ((m_54 35 59) + k)) 35 58 = m_54 35 58 from (s2_a (by decide))]
                      refine jicmp_ne hF (off := 8) 235 (by decide +kernel) (by decide) (by omega) (by omega) (fun h => absurd h (by omega)) (fun _ => ?_)
                      refine jblk hF [(.bipush 9, 2)] (by decide +kernel) (pc' := 232) (lo' := [(7, (0, (m2 35 58) + 1)), (0, (2, 35)), (1, (0, i)), (2, (0, used)), (3, (0, k)), (4, (1, mem 70 k)), (6, (0, c))]) (st' := [(0, 9), (0, used), (2, 72)]) rfl ?_
                      refine jgoto hF (off := 5) 237 (by decide +kernel) (by decide) ?_
                      have hCo : 9 = coC (mem 35 58) c := by unfold coC; first | exact (if_pos (by omega)).symm | exact (if_neg (by omega)).symm
                      refine jiast hF (by decide +kernel) (by decide) (by exact hS.k72) (by omega) (by have := hS.l72; omega) ?_
                      refine jblk hF [(.aload_n 0, 1)] (by decide +kernel) (pc' := 239) (lo' := [(7, (0, (m2 35 58) + 1)), (0, (2, 35)), (1, (0, i)), (2, (0, used)), (3, (0, k)), (4, (1, mem 70 k)), (6, (0, c))]) (st' := [(2, 35)]) rfl ?_
                      refine jget hF 13 51 2 51 rfl (by decide) (by decide) rfl wd_1514 (by decide +kernel) (by exact hS.k35) ?_
                      rw [SR.r51 (SR.s (SR.s hR_m_54 (Or.inl (by decide))) (Or.inl (by decide)))]
                      refine jblk hF [(.iload_n 2, 1), (.lload 4, 2)] (by decide +kernel) (pc' := 245) (lo' := [(7, (0, (m2 35 58) + 1)), (0, (2, 35)), (1, (0, i)), (2, (0, used)), (3, (0, k)), (4, (1, mem 70 k)), (6, (0, c))]) (st' := [(1, mem 70 k), (0, used), (2, 73)]) rfl ?_
                      refine jlast hF (by decide +kernel) (by decide) (by exact hS.k73) (by omega) (by have := hS.l73; omega) ?_
                      have hfs9 : FS mem (set2 (set2 (set2 m_54 71 used ((m_54 35 59) + k)) 72 used 9) 73 used (mem 70 k)) := ((hfs2.tr (FS.of70 hb9)).tr (FS.s _ _ (by decide))).tr ((FS.s _ _ (by decide)).tr (FS.s _ _ (by decide)))
                      have g57 : (set2 (set2 (set2 m_54 71 used ((m_54 35 59) + k)) 72 used 9) 73 used (mem 70 k)) 35 57 = mem 35 57 := hfs9 35 57 (by decide) (by decide) (by decide) (by decide) (by decide) (by decide) (by decide) (by decide)
                      have g58 : (set2 (set2 (set2 m_54 71 used ((m_54 35 59) + k)) 72 used 9) 73 used (mem 70 k)) 35 58 = mem 35 58 := hfs9 35 58 (by decide) (by decide) (by decide) (by decide) (by decide) (by decide) (by decide) (by decide)
                      have g59 : (set2 (set2 (set2 m_54 71 used ((m_54 35 59) + k)) 72 used 9) 73 used (mem 70 k)) 35 59 = mem 35 59 := hfs9 35 59 (by decide) (by decide) (by decide) (by decide) (by decide) (by decide) (by decide) (by decide)
                      have hrs9 : ∀ x : Int, 0 ≤ x → x < mem 35 57 → (set2 (set2 (set2 m_54 71 used ((m_54 35 59) + k)) 72 used 9) 73 used (mem 70 k)) 70 x = markJ (mem 35 57) rs k (tmC (mem 35 58) c) (-(rs k)) (tmC (mem 35 58) c + 1) x := fun x h1 h2 => by rw [s2_a (by decide), s2_a (by decide), s2_a (by decide), hx9 x, hT, f57, hrk2]; exact markJ_congr hz70b x h1 h2
                      have htr9 : TRY (set2 (set2 (set2 m_54 71 used ((m_54 35 59) + k)) 72 used 9) 73 used (mem 70 k)) 3 (upI tl 2 (mem 35 59 + k)) (upI tc 2 (coC (mem 35 58) c)) (upI ta 2 (rs k)) := by rw [hu]; exact try_up (htr2.of ⟨funext fun j => hb9 71 j (by decide), funext fun j => hb9 72 j (by decide), funext fun j => hb9 73 j (by decide)⟩) (by omega) hCo hrk2
                      have hst9 : SKST (set2 (set2 (set2 m_54 71 used ((m_54 35 59) + k)) 72 used 9) 73 used (mem 70 k)) (foldC FF c.toNat S) := hst2.of (fun a j q1 q2 q3 q4 => by rw [s2_a q4, s2_a q3, s2_a q2, hb9 a j q1])
                      refine jblk hF [(.aload_n 0, 1), (.iload_n 3, 1), (.iconst 1, 1), (.iadd, 1), (.iload_n 2, 1), (.iconst 1, 1), (.iadd, 1)] (by decide +kernel) (pc' := 253) (lo' := [(7, (0, (m2 35 58) + 1)), (0, (2, 35)), (1, (0, i)), (2, (0, used)), (3, (0, k)), (4, (1, mem 70 k)), (6, (0, c))]) (st' := [(0, used + 1), (0, k + 1), (2, 35)]) rfl ?_
                      refine jcallV hF (c_seek3 hG hS (SR.s (SR.s (SR.s hR_m_54 (Or.inl (by decide))) (Or.inl (by decide))) (Or.inl (by decide))) (k + 1) (used + 1) (by exact (markJ (mem 35 57) rs k (tmC (mem 35 58) c) (-(rs k)) (tmC (mem 35 58) c + 1))) (by exact (upI tl 2 (mem 35 59 + k))) (by exact (upI tc 2 (coC (mem 35 58) c))) (by exact (upI ta 2 (rs k))) (by exact (foldC FF c.toNat S)) (by omega) (by first | omega | (rw [g57]; omega) | (rw [g58]; omega) | (rw [g59]; omega)) (by first | omega | (rw [g57]; omega) | (rw [g58]; omega) | (rw [g59]; omega)) (by first | omega | (rw [g57]; omega) | (rw [g58]; omega) | (rw [g59]; omega)) (by first | omega | (rw [g57]; omega) | (rw [g58]; omega) | (rw [g59]; omega)) (by rw [g57]; exact hrs9) (by exact htr9) (by exact hst9) (by exact hsb2)) MW_X12_seek 13 (by decide) (by exact hS.k35) wd_2117 wd_2119 wd_p96 (by decide +kernel) [] rfl rfl (by decide) (Nat.le_of_ble_eq_true rfl) (by decide) (kMV (fun m_57 h_58 => ?_))
                      obtain ⟨hR_m_57, h_58⟩ := h_58
                      obtain ⟨hfs8, hz8, htr8, hst8⟩ := h_58
                      rw [g57] at hz8
                      rw [g57, g58, g59] at hst8
                      have i57 : m_57 35 57 = mem 35 57 := (hfs9.tr hfs8) 35 57 (by decide) (by decide) (by decide) (by decide) (by decide) (by decide) (by decide) (by decide)
                      refine jblk hF [(.aload_n 0, 1), (.iload_n 3, 1), (.iload 7, 2), (.lload 4, 2)] (by decide +kernel) (pc' := 262) (lo' := [(7, (0, (m2 35 58) + 1)), (0, (2, 35)), (1, (0, i)), (2, (0, used)), (3, (0, k)), (4, (1, mem 70 k)), (6, (0, c))]) (st' := [(1, mem 70 k), (0, (m2 35 58) + 1), (0, k), (2, 35)]) rfl ?_
                      refine jcallV hF (c_X12_mark hG hS hR_m_57 k ((m2 35 58) + 1) (mem 70 k) (by omega) (by omega) (by first | omega | (rw [e57]; omega))) MW_X12_mark 13 (by decide) (by exact hS.k35) wd_2121 wd_2123 wd_p97 (by decide +kernel) [] rfl rfl (by decide) (Nat.le_of_ble_eq_true rfl) (by decide) (kMV (fun m_59 h_60 => ?_))
                      obtain ⟨hR_m_59, h_60⟩ := h_60
                      have hfs3 : FS mem m_59 := (hfs9.tr hfs8).tr (FS.of70 h_60.1)
                      have hz3 : ∀ x : Int, 0 ≤ x → x < mem 35 57 → m_59 70 x = rs x := fun x h1 h2 => by rw [h_60.2 x, hT, i57, hrk2, markJ_congr (fun y h1 h2 => (hz8 y h1 h2).trans (hrs9 y h1 h2)) x h1 h2]; exact markJ_back x
                      have htr3 : TRY m_59 2 tl tc ta := (try_dn (u := 2) htr8).of ⟨funext fun j => h_60.1 71 j (by decide), funext fun j => h_60.1 72 j (by decide), funext fun j => h_60.1 73 j (by decide)⟩
                      have hst3 : SKST m_59 (FF c (foldC FF c.toNat S)) := by rw [hFFa]; exact hst8.of (fun a j q1 _ _ _ => h_60.1 a j q1)
                      refine jblk hF [(.iinc 6 1, 3)] (by decide +kernel) (pc' := 268) (lo' := [(6, (0, c + 1)), (7, (0, (m2 35 58) + 1)), (0, (2, 35)), (1, (0, i)), (2, (0, used)), (3, (0, k)), (4, (1, mem 70 k))]) (st' := []) rfl ?_
                      refine jgoto hF (off := (-110)) 158 (by decide +kernel) (by decide) ?_
                      refine jsub [2, 3, 4, 5, 6, 0] rfl ?_
                      refine ih_42 (c + 1) m_59 ?_ ?_ ?_ ?_ ?_ ?_ ?_ ?_
                      · omega
                      · assumption
                      · exact hfs3
                      · exact hz3
                      · exact htr3
                      · rw [foldC_s (by omega)]; exact hst3
                      · rw [foldC_s (by omega), hFFa]; exact hSBF _ _ _ _ _ _ hsb2
                      · omega
              refine jsub [2, 3, 4, 5, 1, 0] rfl ?_
              refine L_43 _ 0 mem ?_ ?_ ?_ ?_ ?_ ?_ ?_ (Nat.lt_succ_self _)
              · omega
              · exact hR
              · exact FS.rf
              · exact hrs
              · exact htr
              · exact hst
              · exact hsb
            · refine jvret hF hr (by decide +kernel) ?_
              exact lMV ⟨hR, by exfalso; omega⟩
          · refine jblk hF [(.aload_n 0, 1)] (by decide +kernel) (pc' := 36) (lo' := [(0, (2, 35)), (1, (0, i)), (2, (0, used)), (3, (0, k))]) (st' := [(2, 35)]) rfl ?_
            refine jget hF 13 55 0 55 rfl (by decide) (by decide) rfl wd_1518 (by decide +kernel) (by exact hS.k35) ?_
            refine jblk hF [(.iconst (-1), 1)] (by decide +kernel) (pc' := 40) (lo' := [(0, (2, 35)), (1, (0, i)), (2, (0, used)), (3, (0, k))]) (st' := [(0, (-1)), (0, mem 35 55)]) rfl ?_
            refine jicmp_eq hF (off := 11) 51 (by decide +kernel) (by decide) (by omega) (by decide) (fun h_61 => ?_) (fun h_61 => ?_)
            · have hkN : k = mem 35 57 := by omega
              refine jblk hF [(.aload_n 0, 1), (.iload_n 2, 1)] (by decide +kernel) (pc' := 53) (lo' := [(0, (2, 35)), (1, (0, i)), (2, (0, used)), (3, (0, k))]) (st' := [(0, used), (2, 35)]) rfl ?_
              refine jput hF 13 55 0 55 rfl (by decide) (by decide) rfl wd_1518 (by decide +kernel) rfl (Or.inl rfl) (by exact hS.k35) (fun h => by cases h) ?_
              refine jblk hF [(.aload_n 0, 1), (.iconst 0, 1)] (by decide +kernel) (pc' := 58) (lo' := [(0, (2, 35)), (1, (0, i)), (2, (0, used)), (3, (0, k))]) (st' := [(0, 0), (2, 35)]) rfl ?_
              refine jput hF 13 56 0 56 rfl (by decide) (by decide) rfl wd_1519 (by decide +kernel) rfl (Or.inl rfl) (by exact hS.k35) (fun h => by cases h) ?_
              refine jblk hF [(.iconst 0, 1), (.istore 4, 2)] (by decide +kernel) (pc' := 64) (lo' := [(4, (0, 0)), (0, (2, 35)), (1, (0, i)), (2, (0, used)), (3, (0, k))]) (st' := []) rfl ?_
              have L_63 : ∀ (fu_64 : Nat) (j : Int) (m1 : Int → Int → Int), (0 ≤ j ∧ j ≤ 2) → (SR m1) → (FS mem m1) → (m1 70 = mem 70 ∧ m1 71 = mem 71 ∧ m1 72 = mem 72 ∧ m1 73 = mem 73) → (m1 35 55 = used ∧ m1 35 56 = 0) → (m1 74 = cpN j tl S.2.2.1 ∧ m1 75 = cpN j tc S.2.2.2.1 ∧ m1 76 = cpN j ta S.2.2.2.2) →  (4 - j).toNat < fu_64 → J z g 8 0 0 (QM z g 0 0 (pMV (fun mem' => SR mem' ∧ (FS mem mem' ∧ (∀ x : Int, 0 ≤ x → x < mem 35 57 → mem' 70 x = mem 70 x) ∧ TRY mem' 2 tl tc ta ∧ SKST mem' (seekF (mem 35 57) (mem 35 58) (mem 35 59) 2 rs i tl tc ta S))) kd ln sz)) 64 [(0, (2, 35)), (1, (0, i)), (2, (0, used)), (3, (0, k)), (4, (0, j))] [] kd ln m1 sz := by
                intro fu_64
                induction fu_64 with
                | zero => intro j m1 _ _ _ _ _ _ hm; omega
                | succ fu_64 ih_62 =>
                  intro j m1 hj hR_m1 hfs hz70 hz55 hz74 hm1
                  refine jblk hF [(.iload 4, 2), (.iload_n 2, 1)] (by decide +kernel) (pc' := 67) (lo' := [(0, (2, 35)), (1, (0, i)), (2, (0, used)), (3, (0, k)), (4, (0, j))]) (st' := [(0, used), (0, j)]) rfl ?_
                  refine jicmp_ge hF (off := 51) 118 (by decide +kernel) (by decide) (by omega) (by omega) (fun h_65 => ?_) (fun h_65 => ?_)
                  · refine jblk hF [(.aload_n 0, 1), (.dup, 1)] (by decide +kernel) (pc' := 120) (lo' := [(0, (2, 35)), (1, (0, i)), (2, (0, used)), (3, (0, k)), (4, (0, j))]) (st' := [(2, 35), (2, 35)]) rfl ?_
                    refine jget hF 13 56 0 56 rfl (by decide) (by decide) rfl wd_1519 (by decide +kernel) (by exact hS.k35) ?_
                    refine jblk hF [(.iload_n 2, 1), (.aload_n 0, 1)] (by decide +kernel) (pc' := 125) (lo' := [(0, (2, 35)), (1, (0, i)), (2, (0, used)), (3, (0, k)), (4, (0, j))]) (st' := [(2, 35), (0, used), (0, m1 35 56), (2, 35)]) rfl ?_
                    refine jget hF 13 55 0 55 rfl (by decide) (by decide) rfl wd_1518 (by decide +kernel) (by exact hS.k35) ?_
                    refine jicmp_ne hF (off := 7) 135 (by decide +kernel) (by decide) (by omega) (by omega) (fun h_66 => ?_) (fun h_66 => ?_)
                    · refine jblk hF [(.iconst 0, 1), (.iadd, 1)] (by decide +kernel) (pc' := 137) (lo' := [(0, (2, 35)), (1, (0, i)), (2, (0, used)), (3, (0, k)), (4, (0, j))]) (st' := [(0, (m1 35 56) + 0), (2, 35)]) rfl ?_
                      refine jput hF 13 56 0 56 rfl (by decide) (by decide) rfl wd_1519 (by decide +kernel) rfl (Or.inl rfl) (by exact hS.k35) (fun h => by cases h) ?_
                      refine jvret hF hr (by decide +kernel) ?_
                      exact lMV ⟨(SR.s hR_m1 (Or.inr (by decide))), by have hkN : k = mem 35 57 := (by omega); have hsT : skipN rs i (mem 35 57 - i).toNat = mem 35 57 := (by rw [hsk, hkN]; exact skip_n); rw [seekT (u := 2) (by decide) hsT]; first | exact ⟨hfs.tr (FS.p _ (by decide)), fun x _ _ => congrFun hz70.1 x, htr.of ⟨hz70.2.1, hz70.2.2.1, hz70.2.2.2⟩, fin_new (by omega) (by rw [hz55.1]; exact hu) (by rw [show (2 : Int) = j by omega]; exact hz74) (by omega)⟩ | exact ⟨FS.p _ (by decide), fun x _ _ => rfl, htr, fin_keep (by omega) hst (by first | (rw [if_pos (by omega)]; omega) | (rw [if_neg (by omega)]; omega))⟩ | (exfalso; omega)⟩
                    · refine jblk hF [(.iconst 1, 1)] (by decide +kernel) (pc' := 132) (lo' := [(0, (2, 35)), (1, (0, i)), (2, (0, used)), (3, (0, k)), (4, (0, j))]) (st' := [(0, 1), (0, m1 35 56), (2, 35)]) rfl ?_
                      refine jgoto hF (off := 4) 136 (by decide +kernel) (by decide) ?_
                      refine jblk hF [(.iadd, 1)] (by decide +kernel) (pc' := 137) (lo' := [(0, (2, 35)), (1, (0, i)), (2, (0, used)), (3, (0, k)), (4, (0, j))]) (st' := [(0, (m1 35 56) + 1), (2, 35)]) rfl ?_
                      refine jput hF 13 56 0 56 rfl (by decide) (by decide) rfl wd_1519 (by decide +kernel) rfl (Or.inl rfl) (by exact hS.k35) (fun h => by cases h) ?_
                      refine jvret hF hr (by decide +kernel) ?_
                      exact lMV ⟨(SR.s hR_m1 (Or.inr (by decide))), by have hkN : k = mem 35 57 := (by omega); have hsT : skipN rs i (mem 35 57 - i).toNat = mem 35 57 := (by rw [hsk, hkN]; exact skip_n); rw [seekT (u := 2) (by decide) hsT]; first | exact ⟨hfs.tr (FS.p _ (by decide)), fun x _ _ => congrFun hz70.1 x, htr.of ⟨hz70.2.1, hz70.2.2.1, hz70.2.2.2⟩, fin_new (by omega) (by rw [hz55.1]; exact hu) (by rw [show (2 : Int) = j by omega]; exact hz74) (by omega)⟩ | exact ⟨FS.p _ (by decide), fun x _ _ => rfl, htr, fin_keep (by omega) hst (by first | (rw [if_pos (by omega)]; omega) | (rw [if_neg (by omega)]; omega))⟩ | (exfalso; omega)⟩
                  · refine jblk hF [(.aload_n 0, 1)] (by decide +kernel) (pc' := 71) (lo' := [(0, (2, 35)), (1, (0, i)), (2, (0, used)), (3, (0, k)), (4, (0, j))]) (st' := [(2, 35)]) rfl ?_
                    refine jget hF 13 52 2 52 rfl (by decide) (by decide) rfl wd_1515 (by decide +kernel) (by exact hS.k35) ?_
                    rw [SR.r52 hR_m1]
                    refine jblk hF [(.iload 4, 2), (.aload_n 0, 1)] (by decide +kernel) (pc' := 77) (lo' := [(0, (2, 35)), (1, (0, i)), (2, (0, used)), (3, (0, k)), (4, (0, j))]) (st' := [(2, 35), (0, j), (2, 74)]) rfl ?_
                    refine jget hF 13 49 2 49 rfl (by decide) (by decide) rfl wd_1512 (by decide +kernel) (by exact hS.k35) ?_
                    rw [SR.r49 hR_m1]
                    refine jblk hF [(.iload 4, 2)] (by decide +kernel) (pc' := 82) (lo' := [(0, (2, 35)), (1, (0, i)), (2, (0, used)), (3, (0, k)), (4, (0, j))]) (st' := [(0, j), (2, 71), (0, j), (2, 74)]) rfl ?_
                    refine jiald hF (by decide +kernel) (by exact hS.k71) (by omega) (by have := hS.l71; omega) ?_
                    refine jiast hF (by decide +kernel) (by decide) (by exact hS.k74) (by omega) (by have := hS.l74; omega) ?_
                    refine jblk hF [(.aload_n 0, 1)] (by decide +kernel) (pc' := 85) (lo' := [(0, (2, 35)), (1, (0, i)), (2, (0, used)), (3, (0, k)), (4, (0, j))]) (st' := [(2, 35)]) rfl ?_
                    refine jget hF 13 53 2 53 rfl (by decide) (by decide) rfl wd_1516 (by decide +kernel) (by exact hS.k35) ?_
                    rw [SR.r53 (SR.s hR_m1 (Or.inl (by decide)))]
                    refine jblk hF [(.iload 4, 2), (.aload_n 0, 1)] (by decide +kernel) (pc' := 91) (lo' := [(0, (2, 35)), (1, (0, i)), (2, (0, used)), (3, (0, k)), (4, (0, j))]) (st' := [(2, 35), (0, j), (2, 75)]) rfl ?_
                    refine jget hF 13 50 2 50 rfl (by decide) (by decide) rfl wd_1513 (by decide +kernel) (by exact hS.k35) ?_
                    rw [SR.r50 (SR.s hR_m1 (Or.inl (by decide)))]
                    refine jblk hF [(.iload 4, 2)] (by decide +kernel) (pc' := 96) (lo' := [(0, (2, 35)), (1, (0, i)), (2, (0, used)), (3, (0, k)), (4, (0, j))]) (st' := [(0, j), (2, 72), (0, j), (2, 75)]) rfl ?_
                    refine jiald hF (by decide +kernel) (by exact hS.k72) (by omega) (by have := hS.l72; omega) ?_
                    rw [show (set2 m1 74 j (m1 71 j)) 72 j = m1 72 j from (s2_a (by decide))]
                    refine jiast hF (by decide +kernel) (by decide) (by exact hS.k75) (by omega) (by have := hS.l75; omega) ?_
                    refine jblk hF [(.aload_n 0, 1)] (by decide +kernel) (pc' := 99) (lo' := [(0, (2, 35)), (1, (0, i)), (2, (0, used)), (3, (0, k)), (4, (0, j))]) (st' := [(2, 35)]) rfl ?_
                    refine jget hF 13 54 2 54 rfl (by decide) (by decide) rfl wd_1517 (by decide +kernel) (by exact hS.k35) ?_
                    rw [SR.r54 (SR.s (SR.s hR_m1 (Or.inl (by decide))) (Or.inl (by decide)))]
                    refine jblk hF [(.iload 4, 2), (.aload_n 0, 1)] (by decide +kernel) (pc' := 105) (lo' := [(0, (2, 35)), (1, (0, i)), (2, (0, used)), (3, (0, k)), (4, (0, j))]) (st' := [(2, 35), (0, j), (2, 76)]) rfl ?_
                    refine jget hF 13 51 2 51 rfl (by decide) (by decide) rfl wd_1514 (by decide +kernel) (by exact hS.k35) ?_
                    rw [SR.r51 (SR.s (SR.s hR_m1 (Or.inl (by decide))) (Or.inl (by decide)))]
                    refine jblk hF [(.iload 4, 2)] (by decide +kernel) (pc' := 110) (lo' := [(0, (2, 35)), (1, (0, i)), (2, (0, used)), (3, (0, k)), (4, (0, j))]) (st' := [(0, j), (2, 73), (0, j), (2, 76)]) rfl ?_
                    refine jlald hF (by decide +kernel) (by exact hS.k73) (by omega) (by have := hS.l73; omega) ?_
                    rw [show (set2 (set2 m1 74 j (m1 71 j)) 75 j (m1 72 j)) 73 j = m1 73 j from ((s2_a (by decide)).trans (s2_a (by decide)))]
                    refine jlast hF (by decide +kernel) (by decide) (by exact hS.k76) (by omega) (by have := hS.l76; omega) ?_
                    refine jblk hF [(.iinc 4 1, 3)] (by decide +kernel) (pc' := 115) (lo' := [(4, (0, j + 1)), (0, (2, 35)), (1, (0, i)), (2, (0, used)), (3, (0, k))]) (st' := []) rfl ?_
                    refine jgoto hF (off := (-51)) 64 (by decide +kernel) (by decide) ?_
                    refine jsub [1, 2, 3, 4, 0] rfl ?_
                    refine ih_62 (j + 1) (set2 (set2 (set2 m1 74 j (m1 71 j)) 75 j (m1 72 j)) 76 j (m1 73 j)) ?_ ?_ ?_ ?_ ?_ ?_ ?_
                    · omega
                    · exact ((hR_m1.s (Or.inl (by decide))).s (Or.inl (by decide))).s (Or.inl (by decide))
                    · exact ((hfs.tr (FS.s _ _ (by decide))).tr (FS.s _ _ (by decide))).tr (FS.s _ _ (by decide))
                    · exact ⟨hz70.1, hz70.2.1, hz70.2.2.1, hz70.2.2.2⟩
                    · exact hz55
                    · have h9 := htr j (by omega) (by omega); exact cp3 (by omega) hz74 ⟨by rw [hz70.2.1]; exact h9.1, by rw [hz70.2.2.1]; exact h9.2.1, by rw [hz70.2.2.2]; exact h9.2.2⟩
                    · omega
              refine jsub [1, 2, 3, 4, 0] rfl ?_
              refine L_63 _ 0 (set2 (set2 mem 35 55 used) 35 56 0) ?_ ?_ ?_ ?_ ?_ ?_ (Nat.lt_succ_self _)
              · omega
              · exact (hR.s (Or.inr (by decide))).s (Or.inr (by decide))
              · exact (FS.p _ (by decide)).tr (FS.p _ (by decide))
              · exact ⟨rfl, rfl, rfl, rfl⟩
              · exact ⟨by rw [s2_k (by decide), s2_s], by rw [s2_s]⟩
              · exact ⟨cpN_0 hst.2.2.1, cpN_0 hst.2.2.2.1, cpN_0 hst.2.2.2.2⟩
            · refine jblk hF [(.iload_n 2, 1), (.aload_n 0, 1)] (by decide +kernel) (pc' := 45) (lo' := [(0, (2, 35)), (1, (0, i)), (2, (0, used)), (3, (0, k))]) (st' := [(2, 35), (0, used)]) rfl ?_
              refine jget hF 13 55 0 55 rfl (by decide) (by decide) rfl wd_1518 (by decide +kernel) (by exact hS.k35) ?_
              refine jicmp_ge hF (off := 70) 118 (by decide +kernel) (by decide) (by omega) (by omega) (fun h_67 => ?_) (fun h_67 => ?_)
              · refine jblk hF [(.aload_n 0, 1), (.dup, 1)] (by decide +kernel) (pc' := 120) (lo' := [(0, (2, 35)), (1, (0, i)), (2, (0, used)), (3, (0, k))]) (st' := [(2, 35), (2, 35)]) rfl ?_
                refine jget hF 13 56 0 56 rfl (by decide) (by decide) rfl wd_1519 (by decide +kernel) (by exact hS.k35) ?_
                refine jblk hF [(.iload_n 2, 1), (.aload_n 0, 1)] (by decide +kernel) (pc' := 125) (lo' := [(0, (2, 35)), (1, (0, i)), (2, (0, used)), (3, (0, k))]) (st' := [(2, 35), (0, used), (0, mem 35 56), (2, 35)]) rfl ?_
                refine jget hF 13 55 0 55 rfl (by decide) (by decide) rfl wd_1518 (by decide +kernel) (by exact hS.k35) ?_
                refine jicmp_ne hF (off := 7) 135 (by decide +kernel) (by decide) (by omega) (by omega) (fun h_68 => ?_) (fun h_68 => ?_)
                · refine jblk hF [(.iconst 0, 1), (.iadd, 1)] (by decide +kernel) (pc' := 137) (lo' := [(0, (2, 35)), (1, (0, i)), (2, (0, used)), (3, (0, k))]) (st' := [(0, (mem 35 56) + 0), (2, 35)]) rfl ?_
                  refine jput hF 13 56 0 56 rfl (by decide) (by decide) rfl wd_1519 (by decide +kernel) rfl (Or.inl rfl) (by exact hS.k35) (fun h => by cases h) ?_
                  refine jvret hF hr (by decide +kernel) ?_
                  exact lMV ⟨(SR.s hR (Or.inr (by decide))), by have hkN : k = mem 35 57 := (by omega); have hsT : skipN rs i (mem 35 57 - i).toNat = mem 35 57 := (by rw [hsk, hkN]; exact skip_n); rw [seekT (u := 2) (by decide) hsT]; first | exact ⟨hfs.tr (FS.p _ (by decide)), fun x _ _ => congrFun hz70.1 x, htr.of ⟨hz70.2.1, hz70.2.2.1, hz70.2.2.2⟩, fin_new (by omega) (by rw [hz55.1]; exact hu) (by rw [show (2 : Int) = j by omega]; exact hz74) (by omega)⟩ | exact ⟨FS.p _ (by decide), fun x _ _ => rfl, htr, fin_keep (by omega) hst (by first | (rw [if_pos (by omega)]; omega) | (rw [if_neg (by omega)]; omega))⟩ | (exfalso; omega)⟩
                · refine jblk hF [(.iconst 1, 1)] (by decide +kernel) (pc' := 132) (lo' := [(0, (2, 35)), (1, (0, i)), (2, (0, used)), (3, (0, k))]) (st' := [(0, 1), (0, mem 35 56), (2, 35)]) rfl ?_
                  refine jgoto hF (off := 4) 136 (by decide +kernel) (by decide) ?_
                  refine jblk hF [(.iadd, 1)] (by decide +kernel) (pc' := 137) (lo' := [(0, (2, 35)), (1, (0, i)), (2, (0, used)), (3, (0, k))]) (st' := [(0, (mem 35 56) + 1), (2, 35)]) rfl ?_
                  refine jput hF 13 56 0 56 rfl (by decide) (by decide) rfl wd_1519 (by decide +kernel) rfl (Or.inl rfl) (by exact hS.k35) (fun h => by cases h) ?_
                  refine jvret hF hr (by decide +kernel) ?_
                  exact lMV ⟨(SR.s hR (Or.inr (by decide))), by have hkN : k = mem 35 57 := (by omega); have hsT : skipN rs i (mem 35 57 - i).toNat = mem 35 57 := (by rw [hsk, hkN]; exact skip_n); rw [seekT (u := 2) (by decide) hsT]; first | exact ⟨hfs.tr (FS.p _ (by decide)), fun x _ _ => congrFun hz70.1 x, htr.of ⟨hz70.2.1, hz70.2.2.1, hz70.2.2.2⟩, fin_new (by omega) (by rw [hz55.1]; exact hu) (by rw [show (2 : Int) = j by omega]; exact hz74) (by omega)⟩ | exact ⟨FS.p _ (by decide), fun x _ _ => rfl, htr, fin_keep (by omega) hst (by first | (rw [if_pos (by omega)]; omega) | (rw [if_neg (by omega)]; omega))⟩ | (exfalso; omega)⟩
              · have hkN : k = mem 35 57 := by omega
                refine jblk hF [(.aload_n 0, 1), (.iload_n 2, 1)] (by decide +kernel) (pc' := 53) (lo' := [(0, (2, 35)), (1, (0, i)), (2, (0, used)), (3, (0, k))]) (st' := [(0, used), (2, 35)]) rfl ?_
                refine jput hF 13 55 0 55 rfl (by decide) (by decide) rfl wd_1518 (by decide +kernel) rfl (Or.inl rfl) (by exact hS.k35) (fun h => by cases h) ?_
                refine jblk hF [(.aload_n 0, 1), (.iconst 0, 1)] (by decide +kernel) (pc' := 58) (lo' := [(0, (2, 35)), (1, (0, i)), (2, (0, used)), (3, (0, k))]) (st' := [(0, 0), (2, 35)]) rfl ?_
                refine jput hF 13 56 0 56 rfl (by decide) (by decide) rfl wd_1519 (by decide +kernel) rfl (Or.inl rfl) (by exact hS.k35) (fun h => by cases h) ?_
                refine jblk hF [(.iconst 0, 1), (.istore 4, 2)] (by decide +kernel) (pc' := 64) (lo' := [(4, (0, 0)), (0, (2, 35)), (1, (0, i)), (2, (0, used)), (3, (0, k))]) (st' := []) rfl ?_
                have L_70 : ∀ (fu_71 : Nat) (j : Int) (m1 : Int → Int → Int), (0 ≤ j ∧ j ≤ 2) → (SR m1) → (FS mem m1) → (m1 70 = mem 70 ∧ m1 71 = mem 71 ∧ m1 72 = mem 72 ∧ m1 73 = mem 73) → (m1 35 55 = used ∧ m1 35 56 = 0) → (m1 74 = cpN j tl S.2.2.1 ∧ m1 75 = cpN j tc S.2.2.2.1 ∧ m1 76 = cpN j ta S.2.2.2.2) →  (4 - j).toNat < fu_71 → J z g 8 0 0 (QM z g 0 0 (pMV (fun mem' => SR mem' ∧ (FS mem mem' ∧ (∀ x : Int, 0 ≤ x → x < mem 35 57 → mem' 70 x = mem 70 x) ∧ TRY mem' 2 tl tc ta ∧ SKST mem' (seekF (mem 35 57) (mem 35 58) (mem 35 59) 2 rs i tl tc ta S))) kd ln sz)) 64 [(0, (2, 35)), (1, (0, i)), (2, (0, used)), (3, (0, k)), (4, (0, j))] [] kd ln m1 sz := by
                  intro fu_71
                  induction fu_71 with
                  | zero => intro j m1 _ _ _ _ _ _ hm; omega
                  | succ fu_71 ih_69 =>
                    intro j m1 hj hR_m1 hfs hz70 hz55 hz74 hm1
                    refine jblk hF [(.iload 4, 2), (.iload_n 2, 1)] (by decide +kernel) (pc' := 67) (lo' := [(0, (2, 35)), (1, (0, i)), (2, (0, used)), (3, (0, k)), (4, (0, j))]) (st' := [(0, used), (0, j)]) rfl ?_
                    refine jicmp_ge hF (off := 51) 118 (by decide +kernel) (by decide) (by omega) (by omega) (fun h_72 => ?_) (fun h_72 => ?_)
                    · refine jblk hF [(.aload_n 0, 1), (.dup, 1)] (by decide +kernel) (pc' := 120) (lo' := [(0, (2, 35)), (1, (0, i)), (2, (0, used)), (3, (0, k)), (4, (0, j))]) (st' := [(2, 35), (2, 35)]) rfl ?_
                      refine jget hF 13 56 0 56 rfl (by decide) (by decide) rfl wd_1519 (by decide +kernel) (by exact hS.k35) ?_
                      refine jblk hF [(.iload_n 2, 1), (.aload_n 0, 1)] (by decide +kernel) (pc' := 125) (lo' := [(0, (2, 35)), (1, (0, i)), (2, (0, used)), (3, (0, k)), (4, (0, j))]) (st' := [(2, 35), (0, used), (0, m1 35 56), (2, 35)]) rfl ?_
                      refine jget hF 13 55 0 55 rfl (by decide) (by decide) rfl wd_1518 (by decide +kernel) (by exact hS.k35) ?_
                      refine jicmp_ne hF (off := 7) 135 (by decide +kernel) (by decide) (by omega) (by omega) (fun h_73 => ?_) (fun h_73 => ?_)
                      · refine jblk hF [(.iconst 0, 1), (.iadd, 1)] (by decide +kernel) (pc' := 137) (lo' := [(0, (2, 35)), (1, (0, i)), (2, (0, used)), (3, (0, k)), (4, (0, j))]) (st' := [(0, (m1 35 56) + 0), (2, 35)]) rfl ?_
                        refine jput hF 13 56 0 56 rfl (by decide) (by decide) rfl wd_1519 (by decide +kernel) rfl (Or.inl rfl) (by exact hS.k35) (fun h => by cases h) ?_
                        refine jvret hF hr (by decide +kernel) ?_
                        exact lMV ⟨(SR.s hR_m1 (Or.inr (by decide))), by have hkN : k = mem 35 57 := (by omega); have hsT : skipN rs i (mem 35 57 - i).toNat = mem 35 57 := (by rw [hsk, hkN]; exact skip_n); rw [seekT (u := 2) (by decide) hsT]; first | exact ⟨hfs.tr (FS.p _ (by decide)), fun x _ _ => congrFun hz70.1 x, htr.of ⟨hz70.2.1, hz70.2.2.1, hz70.2.2.2⟩, fin_new (by omega) (by rw [hz55.1]; exact hu) (by rw [show (2 : Int) = j by omega]; exact hz74) (by omega)⟩ | exact ⟨FS.p _ (by decide), fun x _ _ => rfl, htr, fin_keep (by omega) hst (by first | (rw [if_pos (by omega)]; omega) | (rw [if_neg (by omega)]; omega))⟩ | (exfalso; omega)⟩
                      · refine jblk hF [(.iconst 1, 1)] (by decide +kernel) (pc' := 132) (lo' := [(0, (2, 35)), (1, (0, i)), (2, (0, used)), (3, (0, k)), (4, (0, j))]) (st' := [(0, 1), (0, m1 35 56), (2, 35)]) rfl ?_
                        refine jgoto hF (off := 4) 136 (by decide +kernel) (by decide) ?_
                        refine jblk hF [(.iadd, 1)] (by decide +kernel) (pc' := 137) (lo' := [(0, (2, 35)), (1, (0, i)), (2, (0, used)), (3, (0, k)), (4, (0, j))]) (st' := [(0, (m1 35 56) + 1), (2, 35)]) rfl ?_
                        refine jput hF 13 56 0 56 rfl (by decide) (by decide) rfl wd_1519 (by decide +kernel) rfl (Or.inl rfl) (by exact hS.k35) (fun h => by cases h) ?_
                        refine jvret hF hr (by decide +kernel) ?_
                        exact lMV ⟨(SR.s hR_m1 (Or.inr (by decide))), by have hkN : k = mem 35 57 := (by omega); have hsT : skipN rs i (mem 35 57 - i).toNat = mem 35 57 := (by rw [hsk, hkN]; exact skip_n); rw [seekT (u := 2) (by decide) hsT]; first | exact ⟨hfs.tr (FS.p _ (by decide)), fun x _ _ => congrFun hz70.1 x, htr.of ⟨hz70.2.1, hz70.2.2.1, hz70.2.2.2⟩, fin_new (by omega) (by rw [hz55.1]; exact hu) (by rw [show (2 : Int) = j by omega]; exact hz74) (by omega)⟩ | exact ⟨FS.p _ (by decide), fun x _ _ => rfl, htr, fin_keep (by omega) hst (by first | (rw [if_pos (by omega)]; omega) | (rw [if_neg (by omega)]; omega))⟩ | (exfalso; omega)⟩
                    · refine jblk hF [(.aload_n 0, 1)] (by decide +kernel) (pc' := 71) (lo' := [(0, (2, 35)), (1, (0, i)), (2, (0, used)), (3, (0, k)), (4, (0, j))]) (st' := [(2, 35)]) rfl ?_
                      refine jget hF 13 52 2 52 rfl (by decide) (by decide) rfl wd_1515 (by decide +kernel) (by exact hS.k35) ?_
                      rw [SR.r52 hR_m1]
                      refine jblk hF [(.iload 4, 2), (.aload_n 0, 1)] (by decide +kernel) (pc' := 77) (lo' := [(0, (2, 35)), (1, (0, i)), (2, (0, used)), (3, (0, k)), (4, (0, j))]) (st' := [(2, 35), (0, j), (2, 74)]) rfl ?_
                      refine jget hF 13 49 2 49 rfl (by decide) (by decide) rfl wd_1512 (by decide +kernel) (by exact hS.k35) ?_
                      rw [SR.r49 hR_m1]
                      refine jblk hF [(.iload 4, 2)] (by decide +kernel) (pc' := 82) (lo' := [(0, (2, 35)), (1, (0, i)), (2, (0, used)), (3, (0, k)), (4, (0, j))]) (st' := [(0, j), (2, 71), (0, j), (2, 74)]) rfl ?_
                      refine jiald hF (by decide +kernel) (by exact hS.k71) (by omega) (by have := hS.l71; omega) ?_
                      refine jiast hF (by decide +kernel) (by decide) (by exact hS.k74) (by omega) (by have := hS.l74; omega) ?_
                      refine jblk hF [(.aload_n 0, 1)] (by decide +kernel) (pc' := 85) (lo' := [(0, (2, 35)), (1, (0, i)), (2, (0, used)), (3, (0, k)), (4, (0, j))]) (st' := [(2, 35)]) rfl ?_
                      refine jget hF 13 53 2 53 rfl (by decide) (by decide) rfl wd_1516 (by decide +kernel) (by exact hS.k35) ?_
                      rw [SR.r53 (SR.s hR_m1 (Or.inl (by decide)))]
                      refine jblk hF [(.iload 4, 2), (.aload_n 0, 1)] (by decide +kernel) (pc' := 91) (lo' := [(0, (2, 35)), (1, (0, i)), (2, (0, used)), (3, (0, k)), (4, (0, j))]) (st' := [(2, 35), (0, j), (2, 75)]) rfl ?_
                      refine jget hF 13 50 2 50 rfl (by decide) (by decide) rfl wd_1513 (by decide +kernel) (by exact hS.k35) ?_
                      rw [SR.r50 (SR.s hR_m1 (Or.inl (by decide)))]
                      refine jblk hF [(.iload 4, 2)] (by decide +kernel) (pc' := 96) (lo' := [(0, (2, 35)), (1, (0, i)), (2, (0, used)), (3, (0, k)), (4, (0, j))]) (st' := [(0, j), (2, 72), (0, j), (2, 75)]) rfl ?_
                      refine jiald hF (by decide +kernel) (by exact hS.k72) (by omega) (by have := hS.l72; omega) ?_
                      rw [show (set2 m1 74 j (m1 71 j)) 72 j = m1 72 j from (s2_a (by decide))]
                      refine jiast hF (by decide +kernel) (by decide) (by exact hS.k75) (by omega) (by have := hS.l75; omega) ?_
                      refine jblk hF [(.aload_n 0, 1)] (by decide +kernel) (pc' := 99) (lo' := [(0, (2, 35)), (1, (0, i)), (2, (0, used)), (3, (0, k)), (4, (0, j))]) (st' := [(2, 35)]) rfl ?_
                      refine jget hF 13 54 2 54 rfl (by decide) (by decide) rfl wd_1517 (by decide +kernel) (by exact hS.k35) ?_
                      rw [SR.r54 (SR.s (SR.s hR_m1 (Or.inl (by decide))) (Or.inl (by decide)))]
                      refine jblk hF [(.iload 4, 2), (.aload_n 0, 1)] (by decide +kernel) (pc' := 105) (lo' := [(0, (2, 35)), (1, (0, i)), (2, (0, used)), (3, (0, k)), (4, (0, j))]) (st' := [(2, 35), (0, j), (2, 76)]) rfl ?_
                      refine jget hF 13 51 2 51 rfl (by decide) (by decide) rfl wd_1514 (by decide +kernel) (by exact hS.k35) ?_
                      rw [SR.r51 (SR.s (SR.s hR_m1 (Or.inl (by decide))) (Or.inl (by decide)))]
                      refine jblk hF [(.iload 4, 2)] (by decide +kernel) (pc' := 110) (lo' := [(0, (2, 35)), (1, (0, i)), (2, (0, used)), (3, (0, k)), (4, (0, j))]) (st' := [(0, j), (2, 73), (0, j), (2, 76)]) rfl ?_
                      refine jlald hF (by decide +kernel) (by exact hS.k73) (by omega) (by have := hS.l73; omega) ?_
                      rw [show (set2 (set2 m1 74 j (m1 71 j)) 75 j (m1 72 j)) 73 j = m1 73 j from ((s2_a (by decide)).trans (s2_a (by decide)))]
                      refine jlast hF (by decide +kernel) (by decide) (by exact hS.k76) (by omega) (by have := hS.l76; omega) ?_
                      refine jblk hF [(.iinc 4 1, 3)] (by decide +kernel) (pc' := 115) (lo' := [(4, (0, j + 1)), (0, (2, 35)), (1, (0, i)), (2, (0, used)), (3, (0, k))]) (st' := []) rfl ?_
                      refine jgoto hF (off := (-51)) 64 (by decide +kernel) (by decide) ?_
                      refine jsub [1, 2, 3, 4, 0] rfl ?_
                      refine ih_69 (j + 1) (set2 (set2 (set2 m1 74 j (m1 71 j)) 75 j (m1 72 j)) 76 j (m1 73 j)) ?_ ?_ ?_ ?_ ?_ ?_ ?_
                      · omega
                      · exact ((hR_m1.s (Or.inl (by decide))).s (Or.inl (by decide))).s (Or.inl (by decide))
                      · exact ((hfs.tr (FS.s _ _ (by decide))).tr (FS.s _ _ (by decide))).tr (FS.s _ _ (by decide))
                      · exact ⟨hz70.1, hz70.2.1, hz70.2.2.1, hz70.2.2.2⟩
                      · exact hz55
                      · have h9 := htr j (by omega) (by omega); exact cp3 (by omega) hz74 ⟨by rw [hz70.2.1]; exact h9.1, by rw [hz70.2.2.1]; exact h9.2.1, by rw [hz70.2.2.2]; exact h9.2.2⟩
                      · omega
                refine jsub [1, 2, 3, 4, 0] rfl ?_
                refine L_70 _ 0 (set2 (set2 mem 35 55 used) 35 56 0) ?_ ?_ ?_ ?_ ?_ ?_ (Nat.lt_succ_self _)
                · omega
                · exact (hR.s (Or.inr (by decide))).s (Or.inr (by decide))
                · exact (FS.p _ (by decide)).tr (FS.p _ (by decide))
                · exact ⟨rfl, rfl, rfl, rfl⟩
                · exact ⟨by rw [s2_k (by decide), s2_s], by rw [s2_s]⟩
                · exact ⟨cpN_0 hst.2.2.1, cpN_0 hst.2.2.2.1, cpN_0 hst.2.2.2.2⟩
        · refine jblk hF [(.iinc 3 1, 3)] (by decide +kernel) (pc' := 24) (lo' := [(3, (0, k + 1)), (0, (2, 35)), (1, (0, i)), (2, (0, used))]) (st' := []) rfl ?_
          refine jgoto hF (off := (-22)) 2 (by decide +kernel) (by decide) ?_
          refine jsub [1, 2, 3, 0] rfl ?_
          refine ih_1 (k + 1) ?_ ?_ ?_
          · omega
          · rw [hsk]; have hrk2 := hrk (by omega); exact skip_s (by omega) (by rw [← hrk2]; first | assumption | omega)
          · omega
  refine jsub [1, 2, 3, 0] rfl ?_
  refine L_2 _ i ?_ ?_ (Nat.lt_succ_self _)
  · omega
  · rfl
set_option maxHeartbeats 4000000 in
set_option maxRecDepth 100000 in
theorem c_seek1 {l : Launch} {g : GP} (hG : GH g) {kd : Int → Nat} {ln : Int → Int} {mem : Int → Int → Int} {sz : Nat} (hS : SK kd ln) (hR : SR mem) (i used : Int) (rs : Int → Int) (tl : Int → Int) (tc : Int → Int) (ta : Int → Int) (S : ST) (hu : used = 1) (hi : 0 ≤ i ∧ i ≤ mem 35 57) (hN : 0 ≤ mem 35 57 ∧ mem 35 57 ≤ 40) (ho : 0 ≤ mem 35 58 ∧ mem 35 58 ≤ 4) (hh : 0 ≤ mem 35 59 ∧ mem 35 59 ≤ 40) (hrs : ∀ x : Int, 0 ≤ x → x < mem 35 57 → mem 70 x = rs x) (htr : TRY mem 1 tl tc ta) (hst : SKST mem S) (hsb : SB S) : MT l g yX12_seek cX12_seek 8 none 4 0 0 [(2, 35), (0, i), (0, used)] kd ln mem sz (pMV (fun mem' => SR mem' ∧ (FS mem mem' ∧ (∀ x : Int, 0 ≤ x → x < mem 35 57 → mem' 70 x = mem 70 x) ∧ TRY mem' 1 tl tc ta ∧ SKST mem' (seekF (mem 35 57) (mem 35 58) (mem 35 59) 3 rs i tl tc ta S))) kd ln sz) := by
  refine MT_of hG (by decide +kernel) (Nat.le_of_ble_eq_true rfl) (fun z hF hr hn => ?_)
  have hb1 := hsb.1
  have hb2 := hsb.2
  have h55 := hst.1
  have h56 := hst.2.1
  refine jblk hF [(.iload_n 1, 1), (.istore_n 3, 1)] (by decide +kernel) (pc' := 2) (lo' := [(3, (0, i)), (0, (2, 35)), (1, (0, i)), (2, (0, used))]) (st' := []) rfl ?_
  have L_2 : ∀ (fu_3 : Nat) (k : Int), (i ≤ k ∧ k ≤ mem 35 57) → (skipN rs i (mem 35 57 - i).toNat = skipN rs k (mem 35 57 - k).toNat) →  (mem 35 57 - k).toNat < fu_3 → J z g 8 0 0 (QM z g 0 0 (pMV (fun mem' => SR mem' ∧ (FS mem mem' ∧ (∀ x : Int, 0 ≤ x → x < mem 35 57 → mem' 70 x = mem 70 x) ∧ TRY mem' 1 tl tc ta ∧ SKST mem' (seekF (mem 35 57) (mem 35 58) (mem 35 59) 3 rs i tl tc ta S))) kd ln sz)) 2 [(0, (2, 35)), (1, (0, i)), (2, (0, used)), (3, (0, k))] [] kd ln mem sz := by
    intro fu_3
    induction fu_3 with
    | zero => intro k _ _ hm; omega
    | succ fu_3 ih_1 =>
      intro k hk hsk hm
      have hrk : k < mem 35 57 → mem 70 k = rs k := fun h => hrs k (by omega) h
      refine jblk hF [(.iload_n 3, 1), (.aload_n 0, 1)] (by decide +kernel) (pc' := 4) (lo' := [(0, (2, 35)), (1, (0, i)), (2, (0, used)), (3, (0, k))]) (st' := [(2, 35), (0, k)]) rfl ?_
      refine jget hF 13 57 0 57 rfl (by decide) (by decide) rfl wd_1520 (by decide +kernel) (by exact hS.k35) ?_
      refine jicmp_ge hF (off := 20) 27 (by decide +kernel) (by decide) (by omega) (by omega) (fun h_4 => ?_) (fun h_4 => ?_)
      · refine jblk hF [(.iload_n 3, 1), (.aload_n 0, 1)] (by decide +kernel) (pc' := 29) (lo' := [(0, (2, 35)), (1, (0, i)), (2, (0, used)), (3, (0, k))]) (st' := [(2, 35), (0, k)]) rfl ?_
        refine jget hF 13 57 0 57 rfl (by decide) (by decide) rfl wd_1520 (by decide +kernel) (by exact hS.k35) ?_
        refine jicmp_ne hF (off := 109) 141 (by decide +kernel) (by decide) (by omega) (by omega) (fun h_5 => ?_) (fun h_5 => ?_)
        · refine jblk hF [(.iload_n 2, 1), (.iconst 4, 1)] (by decide +kernel) (pc' := 143) (lo' := [(0, (2, 35)), (1, (0, i)), (2, (0, used)), (3, (0, k))]) (st' := [(0, 4), (0, used)]) rfl ?_
          refine jicmp_ne hF (off := 4) 147 (by decide +kernel) (by decide) (by omega) (by decide) (fun h_6 => ?_) (fun h_6 => ?_)
          · have hrk2 := hrk (by omega)
            have hske : skipN rs i (mem 35 57 - i).toNat = k := by rw [hsk]; exact skip_e (by omega) (by rw [← hrk2]; first | assumption | omega)
            obtain ⟨FF, hFF⟩ : ∃ FF : Int → ST → ST, FF = (fun c => seekF (mem 35 57) (mem 35 58) (mem 35 59) 2 (markJ (mem 35 57) rs k (tmC (mem 35 58) c) (-(rs k)) (tmC (mem 35 58) c + 1)) (k + 1) (upI tl 1 (mem 35 59 + k)) (upI tc 1 (coC (mem 35 58) c)) (upI ta 1 (rs k))) := ⟨_, rfl⟩
            have hFFa := fun (c9 : Int) (S9 : ST) => congrFun (congrFun hFF c9) S9
            have hSBF := fun (rs : Int → Int) (i : Int) (tl tc ta : Int → Int) (S : ST) (h : SB S) => (seekF_bd (N := mem 35 57) (o := mem 35 58) (h := mem 35 59) 2 (by decide) rs i tl tc ta S h).1
            refine jblk hF [(.aload_n 0, 1)] (by decide +kernel) (pc' := 148) (lo' := [(0, (2, 35)), (1, (0, i)), (2, (0, used)), (3, (0, k))]) (st' := [(2, 35)]) rfl ?_
            refine jget hF 13 48 2 48 rfl (by decide) (by decide) rfl wd_1511 (by decide +kernel) (by exact hS.k35) ?_
            rw [SR.r48 hR]
            refine jblk hF [(.iload_n 3, 1)] (by decide +kernel) (pc' := 152) (lo' := [(0, (2, 35)), (1, (0, i)), (2, (0, used)), (3, (0, k))]) (st' := [(0, k), (2, 70)]) rfl ?_
            refine jlald hF (by decide +kernel) (by exact hS.k70) (by omega) (by have := hS.l70; omega) ?_
            refine jblk hF [(.lstore 4, 2), (.iconst 0, 1), (.istore 6, 2)] (by decide +kernel) (pc' := 158) (lo' := [(6, (0, 0)), (4, (1, mem 70 k)), (0, (2, 35)), (1, (0, i)), (2, (0, used)), (3, (0, k))]) (st' := []) rfl ?_
            have L_8 : ∀ (fu_9 : Nat) (c : Int) (m2 : Int → Int → Int), (0 ≤ c ∧ c ≤ mem 35 58 + 1) → (SR m2) → (FS mem m2) → (∀ x : Int, 0 ≤ x → x < mem 35 57 → m2 70 x = rs x) → (TRY m2 1 tl tc ta) → (SKST m2 (foldC FF c.toNat S)) → (SB (foldC FF c.toNat S)) →  (mem 35 58 + 1 - c).toNat < fu_9 → J z g 8 0 0 (QM z g 0 0 (pMV (fun mem' => SR mem' ∧ (FS mem mem' ∧ (∀ x : Int, 0 ≤ x → x < mem 35 57 → mem' 70 x = mem 70 x) ∧ TRY mem' 1 tl tc ta ∧ SKST mem' (seekF (mem 35 57) (mem 35 58) (mem 35 59) 3 rs i tl tc ta S))) kd ln sz)) 158 [(0, (2, 35)), (1, (0, i)), (2, (0, used)), (3, (0, k)), (4, (1, mem 70 k)), (6, (0, c))] [] kd ln m2 sz := by
              intro fu_9
              induction fu_9 with
              | zero => intro c m2 _ _ _ _ _ _ _ hm; omega
              | succ fu_9 ih_7 =>
                intro c m2 hc hR_m2 hfs2 hz70b htr2 hst2 hsb2 hm2
                have f57 : m2 35 57 = mem 35 57 := hfs2 35 57 (by decide) (by decide) (by decide) (by decide) (by decide) (by decide) (by decide) (by decide)
                have f58 : m2 35 58 = mem 35 58 := hfs2 35 58 (by decide) (by decide) (by decide) (by decide) (by decide) (by decide) (by decide) (by decide)
                have f59 : m2 35 59 = mem 35 59 := hfs2 35 59 (by decide) (by decide) (by decide) (by decide) (by decide) (by decide) (by decide) (by decide)
                refine jblk hF [(.iload 6, 2), (.aload_n 0, 1)] (by decide +kernel) (pc' := 161) (lo' := [(0, (2, 35)), (1, (0, i)), (2, (0, used)), (3, (0, k)), (4, (1, mem 70 k)), (6, (0, c))]) (st' := [(2, 35), (0, c)]) rfl ?_
                refine jget hF 13 58 0 58 rfl (by decide) (by decide) rfl wd_1521 (by decide +kernel) (by exact hS.k35) ?_
                refine jicmp_gt hF (off := 107) 271 (by decide +kernel) (by decide) (by omega) (by omega) (fun h_10 => ?_) (fun h_10 => ?_)
                · refine jvret hF hr (by decide +kernel) ?_
                  exact lMV ⟨hR_m2, by exact ⟨hfs2, fun x h1 h2 => by rw [hz70b x h1 h2, hrs x h1 h2], htr2, by rw [show (3 : Nat) = 2 + 1 from rfl, seekL (u := 1) (by decide) hske (by omega), ← hFF, show (mem 35 58 + 1).toNat = c.toNat by omega]; exact hst2⟩⟩
                · refine jblk hF [(.iload 6, 2), (.aload_n 0, 1)] (by decide +kernel) (pc' := 170) (lo' := [(0, (2, 35)), (1, (0, i)), (2, (0, used)), (3, (0, k)), (4, (1, mem 70 k)), (6, (0, c))]) (st' := [(2, 35), (0, c)]) rfl ?_
                  refine jget hF 13 58 0 58 rfl (by decide) (by decide) rfl wd_1521 (by decide +kernel) (by exact hS.k35) ?_
                  refine jicmp_ne hF (off := 12) 185 (by decide +kernel) (by decide) (by omega) (by omega) (fun h_11 => ?_) (fun h_11 => ?_)
                  · refine jblk hF [(.aload_n 0, 1)] (by decide +kernel) (pc' := 186) (lo' := [(0, (2, 35)), (1, (0, i)), (2, (0, used)), (3, (0, k)), (4, (1, mem 70 k)), (6, (0, c))]) (st' := [(2, 35)]) rfl ?_
                    refine jget hF 13 58 0 58 rfl (by decide) (by decide) rfl wd_1521 (by decide +kernel) (by exact hS.k35) ?_
                    refine jblk hF [(.iload 6, 2), (.isub, 1), (.istore 7, 2)] (by decide +kernel) (pc' := 194) (lo' := [(7, (0, (m2 35 58) - c)), (0, (2, 35)), (1, (0, i)), (2, (0, used)), (3, (0, k)), (4, (1, mem 70 k)), (6, (0, c))]) (st' := []) rfl ?_
                    have hT : ((m2 35 58) - c) = tmC (mem 35 58) c := by unfold tmC; first | (rw [if_pos (by omega)]; omega) | (rw [if_neg (by omega)]; omega)
                    have hT5 : 0 ≤ tmC (mem 35 58) c ∧ tmC (mem 35 58) c ≤ 5 := by omega
                    refine jblk hF [(.aload_n 0, 1), (.iload_n 3, 1), (.iload 7, 2), (.lload 4, 2), (.lneg, 1)] (by decide +kernel) (pc' := 201) (lo' := [(7, (0, (m2 35 58) - c)), (0, (2, 35)), (1, (0, i)), (2, (0, used)), (3, (0, k)), (4, (1, mem 70 k)), (6, (0, c))]) (st' := [(1, -(mem 70 k)), (0, (m2 35 58) - c), (0, k), (2, 35)]) rfl ?_
                    refine jcallV hF (c_X12_mark hG hS hR_m2 k ((m2 35 58) - c) (-(mem 70 k)) (by omega) (by omega) (by first | omega | (rw [e57]; omega))) MW_X12_mark 13 (by decide) (by exact hS.k35) wd_2121 wd_2123 wd_p97 (by decide +kernel) [] rfl rfl (by decide) (Nat.le_of_ble_eq_true rfl) (by decide) (kMV (fun m_12 h_13 => ?_))
                    obtain ⟨hR_m_12, h_13⟩ := h_13
                    have hb9 := h_13.1
                    have hx9 := h_13.2
                    have j58 := hb9 35 58 (by decide)
                    have j59 := hb9 35 59 (by decide)
                    refine jblk hF [(.aload_n 0, 1)] (by decide +kernel) (pc' := 205) (lo' := [(7, (0, (m2 35 58) - c)), (0, (2, 35)), (1, (0, i)), (2, (0, used)), (3, (0, k)), (4, (1, mem 70 k)), (6, (0, c))]) (st' := [(2, 35)]) rfl ?_
                    refine jget hF 13 49 2 49 rfl (by decide) (by decide) rfl wd_1512 (by decide +kernel) (by exact hS.k35) ?_
                    rw [SR.r49 hR_m_12]
                    refine jblk hF [(.iload_n 2, 1), (.aload_n 0, 1)] (by decide +kernel) (pc' := 210) (lo' := [(7, (0, (m2 35 58) - c)), (0, (2, 35)), (1, (0, i)), (2, (0, used)), (3, (0, k)), (4, (1, mem 70 k)), (6, (0, c))]) (st' := [(2, 35), (0, used), (2, 71)]) rfl ?_
                    refine jget hF 13 59 0 59 rfl (by decide) (by decide) rfl wd_1522 (by decide +kernel) (by exact hS.k35) ?_
                    refine jblk hF [(.iload_n 3, 1), (.iadd, 1)] (by decide +kernel) (pc' := 215) (lo' := [(7, (0, (m2 35 58) - c)), (0, (2, 35)), (1, (0, i)), (2, (0, used)), (3, (0, k)), (4, (1, mem 70 k)), (6, (0, c))]) (st' := [(0, (m_12 35 59) + k), (0, used), (2, 71)]) rfl ?_
                    refine jiast hF (by decide +kernel) (by decide) (by exact hS.k71) (by omega) (by have := hS.l71; omega) ?_
                    refine jblk hF [(.aload_n 0, 1)] (by decide +kernel) (pc' := 217) (lo' := [(7, (0, (m2 35 58) - c)), (0, (2, 35)), (1, (0, i)), (2, (0, used)), (3, (0, k)), (4, (1, mem 70 k)), (6, (0, c))]) (st' := [(2, 35)]) rfl ?_
                    refine jget hF 13 50 2 50 rfl (by decide) (by decide) rfl wd_1513 (by decide +kernel) (by exact hS.k35) ?_
                    rw [SR.r50 (SR.s hR_m_12 (Or.inl (by decide)))]
                    refine jblk hF [(.iload_n 2, 1), (.iload 6, 2), (.aload_n 0, 1)] (by decide +kernel) (pc' := 224) (lo' := [(7, (0, (m2 35 58) - c)), (0, (2, 35)), (1, (0, i)), (2, (0, used)), (3, (0, k)), (4, (1, mem 70 k)), (6, (0, c))]) (st' := [(2, 35), (0, c), (0, used), (2, 72)]) rfl ?_
                    refine jget hF 13 58 0 58 rfl (by decide) (by decide) rfl wd_1521 (by decide +kernel) (by exact hS.k35) ?_
                    rw [show (set2 m_12 71 used ((m_12 35 59) + k)) 35 58 = m_12 35 58 from (s2_a (by decide))]
                    refine jicmp_ne hF (off := 8) 235 (by decide +kernel) (by decide) (by omega) (by omega) (fun _ => ?_) (fun h => absurd h (by omega))
                    refine jblk hF [(.iload 6, 2)] (by decide +kernel) (pc' := 237) (lo' := [(7, (0, (m2 35 58) - c)), (0, (2, 35)), (1, (0, i)), (2, (0, used)), (3, (0, k)), (4, (1, mem 70 k)), (6, (0, c))]) (st' := [(0, c), (0, used), (2, 72)]) rfl ?_
                    have hCo : c = coC (mem 35 58) c := by unfold coC; first | exact (if_pos (by omega)).symm | exact (if_neg (by omega)).symm
                    refine jiast hF (by decide +kernel) (by decide) (by exact hS.k72) (by omega) (by have := hS.l72; omega) ?_
                    refine jblk hF [(.aload_n 0, 1)] (by decide +kernel) (pc' := 239) (lo' := [(7, (0, (m2 35 58) - c)), (0, (2, 35)), (1, (0, i)), (2, (0, used)), (3, (0, k)), (4, (1, mem 70 k)), (6, (0, c))]) (st' := [(2, 35)]) rfl ?_
                    refine jget hF 13 51 2 51 rfl (by decide) (by decide) rfl wd_1514 (by decide +kernel) (by exact hS.k35) ?_
                    rw [SR.r51 (SR.s (SR.s hR_m_12 (Or.inl (by decide))) (Or.inl (by decide)))]
                    refine jblk hF [(.iload_n 2, 1), (.lload 4, 2)] (by decide +kernel) (pc' := 245) (lo' := [(7, (0, (m2 35 58) - c)), (0, (2, 35)), (1, (0, i)), (2, (0, used)), (3, (0, k)), (4, (1, mem 70 k)), (6, (0, c))]) (st' := [(1, mem 70 k), (0, used), (2, 73)]) rfl ?_
                    refine jlast hF (by decide +kernel) (by decide) (by exact hS.k73) (by omega) (by have := hS.l73; omega) ?_
                    have hfs9 : FS mem (set2 (set2 (set2 m_12 71 used ((m_12 35 59) + k)) 72 used c) 73 used (mem 70 k)) := ((hfs2.tr (FS.of70 hb9)).tr (FS.s _ _ (by decide))).tr ((FS.s _ _ (by decide)).tr (FS.s _ _ (by decide)))
                    have g57 : (set2 (set2 (set2 m_12 71 used ((m_12 35 59) + k)) 72 used c) 73 used (mem 70 k)) 35 57 = mem 35 57 := hfs9 35 57 (by decide) (by decide) (by decide) (by decide) (by decide) (by decide) (by decide) (by decide)
                    have g58 : (set2 (set2 (set2 m_12 71 used ((m_12 35 59) + k)) 72 used c) 73 used (mem 70 k)) 35 58 = mem 35 58 := hfs9 35 58 (by decide) (by decide) (by decide) (by decide) (by decide) (by decide) (by decide) (by decide)
                    have g59 : (set2 (set2 (set2 m_12 71 used ((m_12 35 59) + k)) 72 used c) 73 used (mem 70 k)) 35 59 = mem 35 59 := hfs9 35 59 (by decide) (by decide) (by decide) (by decide) (by decide) (by decide) (by decide) (by decide)
                    have hrs9 : ∀ x : Int, 0 ≤ x → x < mem 35 57 → (set2 (set2 (set2 m_12 71 used ((m_12 35 59) + k)) 72 used c) 73 used (mem 70 k)) 70 x = markJ (mem 35 57) rs k (tmC (mem 35 58) c) (-(rs k)) (tmC (mem 35 58) c + 1) x := fun x h1 h2 => by rw [s2_a (by decide), s2_a (by decide), s2_a (by decide), hx9 x, hT, f57, hrk2]; exact markJ_congr hz70b x h1 h2
                    have htr9 : TRY (set2 (set2 (set2 m_12 71 used ((m_12 35 59) + k)) 72 used c) 73 used (mem 70 k)) 2 (upI tl 1 (mem 35 59 + k)) (upI tc 1 (coC (mem 35 58) c)) (upI ta 1 (rs k)) := by rw [hu]; exact try_up (htr2.of ⟨funext fun j => hb9 71 j (by decide), funext fun j => hb9 72 j (by decide), funext fun j => hb9 73 j (by decide)⟩) (by omega) hCo hrk2
                    have hst9 : SKST (set2 (set2 (set2 m_12 71 used ((m_12 35 59) + k)) 72 used c) 73 used (mem 70 k)) (foldC FF c.toNat S) := hst2.of (fun a j q1 q2 q3 q4 => by rw [s2_a q4, s2_a q3, s2_a q2, hb9 a j q1])
                    refine jblk hF [(.aload_n 0, 1), (.iload_n 3, 1), (.iconst 1, 1), (.iadd, 1), (.iload_n 2, 1), (.iconst 1, 1), (.iadd, 1)] (by decide +kernel) (pc' := 253) (lo' := [(7, (0, (m2 35 58) - c)), (0, (2, 35)), (1, (0, i)), (2, (0, used)), (3, (0, k)), (4, (1, mem 70 k)), (6, (0, c))]) (st' := [(0, used + 1), (0, k + 1), (2, 35)]) rfl ?_
                    refine jcallV hF (c_seek2 hG hS (SR.s (SR.s (SR.s hR_m_12 (Or.inl (by decide))) (Or.inl (by decide))) (Or.inl (by decide))) (k + 1) (used + 1) (by exact (markJ (mem 35 57) rs k (tmC (mem 35 58) c) (-(rs k)) (tmC (mem 35 58) c + 1))) (by exact (upI tl 1 (mem 35 59 + k))) (by exact (upI tc 1 (coC (mem 35 58) c))) (by exact (upI ta 1 (rs k))) (by exact (foldC FF c.toNat S)) (by omega) (by first | omega | (rw [g57]; omega) | (rw [g58]; omega) | (rw [g59]; omega)) (by first | omega | (rw [g57]; omega) | (rw [g58]; omega) | (rw [g59]; omega)) (by first | omega | (rw [g57]; omega) | (rw [g58]; omega) | (rw [g59]; omega)) (by first | omega | (rw [g57]; omega) | (rw [g58]; omega) | (rw [g59]; omega)) (by rw [g57]; exact hrs9) (by exact htr9) (by exact hst9) (by exact hsb2)) MW_X12_seek 13 (by decide) (by exact hS.k35) wd_2117 wd_2119 wd_p96 (by decide +kernel) [] rfl rfl (by decide) (Nat.le_of_ble_eq_true rfl) (by decide) (kMV (fun m_15 h_16 => ?_))
                    obtain ⟨hR_m_15, h_16⟩ := h_16
                    obtain ⟨hfs8, hz8, htr8, hst8⟩ := h_16
                    rw [g57] at hz8
                    rw [g57, g58, g59] at hst8
                    have i57 : m_15 35 57 = mem 35 57 := (hfs9.tr hfs8) 35 57 (by decide) (by decide) (by decide) (by decide) (by decide) (by decide) (by decide) (by decide)
                    refine jblk hF [(.aload_n 0, 1), (.iload_n 3, 1), (.iload 7, 2), (.lload 4, 2)] (by decide +kernel) (pc' := 262) (lo' := [(7, (0, (m2 35 58) - c)), (0, (2, 35)), (1, (0, i)), (2, (0, used)), (3, (0, k)), (4, (1, mem 70 k)), (6, (0, c))]) (st' := [(1, mem 70 k), (0, (m2 35 58) - c), (0, k), (2, 35)]) rfl ?_
                    refine jcallV hF (c_X12_mark hG hS hR_m_15 k ((m2 35 58) - c) (mem 70 k) (by omega) (by omega) (by first | omega | (rw [e57]; omega))) MW_X12_mark 13 (by decide) (by exact hS.k35) wd_2121 wd_2123 wd_p97 (by decide +kernel) [] rfl rfl (by decide) (Nat.le_of_ble_eq_true rfl) (by decide) (kMV (fun m_17 h_18 => ?_))
                    obtain ⟨hR_m_17, h_18⟩ := h_18
                    have hfs3 : FS mem m_17 := (hfs9.tr hfs8).tr (FS.of70 h_18.1)
                    have hz3 : ∀ x : Int, 0 ≤ x → x < mem 35 57 → m_17 70 x = rs x := fun x h1 h2 => by rw [h_18.2 x, hT, i57, hrk2, markJ_congr (fun y h1 h2 => (hz8 y h1 h2).trans (hrs9 y h1 h2)) x h1 h2]; exact markJ_back x
                    have htr3 : TRY m_17 1 tl tc ta := (try_dn (u := 1) htr8).of ⟨funext fun j => h_18.1 71 j (by decide), funext fun j => h_18.1 72 j (by decide), funext fun j => h_18.1 73 j (by decide)⟩
                    have hst3 : SKST m_17 (FF c (foldC FF c.toNat S)) := by rw [hFFa]; exact hst8.of (fun a j q1 _ _ _ => h_18.1 a j q1)
                    refine jblk hF [(.iinc 6 1, 3)] (by decide +kernel) (pc' := 268) (lo' := [(6, (0, c + 1)), (7, (0, (m2 35 58) - c)), (0, (2, 35)), (1, (0, i)), (2, (0, used)), (3, (0, k)), (4, (1, mem 70 k))]) (st' := []) rfl ?_
                    refine jgoto hF (off := (-110)) 158 (by decide +kernel) (by decide) ?_
                    refine jsub [2, 3, 4, 5, 6, 0] rfl ?_
                    refine ih_7 (c + 1) m_17 ?_ ?_ ?_ ?_ ?_ ?_ ?_ ?_
                    · omega
                    · assumption
                    · exact hfs3
                    · exact hz3
                    · exact htr3
                    · rw [foldC_s (by omega)]; exact hst3
                    · rw [foldC_s (by omega), hFFa]; exact hSBF _ _ _ _ _ _ hsb2
                    · omega
                  · refine jblk hF [(.aload_n 0, 1)] (by decide +kernel) (pc' := 177) (lo' := [(0, (2, 35)), (1, (0, i)), (2, (0, used)), (3, (0, k)), (4, (1, mem 70 k)), (6, (0, c))]) (st' := [(2, 35)]) rfl ?_
                    refine jget hF 13 58 0 58 rfl (by decide) (by decide) rfl wd_1521 (by decide +kernel) (by exact hS.k35) ?_
                    refine jblk hF [(.iconst 1, 1), (.iadd, 1)] (by decide +kernel) (pc' := 182) (lo' := [(0, (2, 35)), (1, (0, i)), (2, (0, used)), (3, (0, k)), (4, (1, mem 70 k)), (6, (0, c))]) (st' := [(0, (m2 35 58) + 1)]) rfl ?_
                    refine jgoto hF (off := 10) 192 (by decide +kernel) (by decide) ?_
                    refine jblk hF [(.istore 7, 2)] (by decide +kernel) (pc' := 194) (lo' := [(7, (0, (m2 35 58) + 1)), (0, (2, 35)), (1, (0, i)), (2, (0, used)), (3, (0, k)), (4, (1, mem 70 k)), (6, (0, c))]) (st' := []) rfl ?_
                    have hT : ((m2 35 58) + 1) = tmC (mem 35 58) c := by unfold tmC; first | (rw [if_pos (by omega)]; omega) | (rw [if_neg (by omega)]; omega)
                    have hT5 : 0 ≤ tmC (mem 35 58) c ∧ tmC (mem 35 58) c ≤ 5 := by omega
                    refine jblk hF [(.aload_n 0, 1), (.iload_n 3, 1), (.iload 7, 2), (.lload 4, 2), (.lneg, 1)] (by decide +kernel) (pc' := 201) (lo' := [(7, (0, (m2 35 58) + 1)), (0, (2, 35)), (1, (0, i)), (2, (0, used)), (3, (0, k)), (4, (1, mem 70 k)), (6, (0, c))]) (st' := [(1, -(mem 70 k)), (0, (m2 35 58) + 1), (0, k), (2, 35)]) rfl ?_
                    refine jcallV hF (c_X12_mark hG hS hR_m2 k ((m2 35 58) + 1) (-(mem 70 k)) (by omega) (by omega) (by first | omega | (rw [e57]; omega))) MW_X12_mark 13 (by decide) (by exact hS.k35) wd_2121 wd_2123 wd_p97 (by decide +kernel) [] rfl rfl (by decide) (Nat.le_of_ble_eq_true rfl) (by decide) (kMV (fun m_19 h_20 => ?_))
                    obtain ⟨hR_m_19, h_20⟩ := h_20
                    have hb9 := h_20.1
                    have hx9 := h_20.2
                    have j58 := hb9 35 58 (by decide)
                    have j59 := hb9 35 59 (by decide)
                    refine jblk hF [(.aload_n 0, 1)] (by decide +kernel) (pc' := 205) (lo' := [(7, (0, (m2 35 58) + 1)), (0, (2, 35)), (1, (0, i)), (2, (0, used)), (3, (0, k)), (4, (1, mem 70 k)), (6, (0, c))]) (st' := [(2, 35)]) rfl ?_
                    refine jget hF 13 49 2 49 rfl (by decide) (by decide) rfl wd_1512 (by decide +kernel) (by exact hS.k35) ?_
                    rw [SR.r49 hR_m_19]
                    refine jblk hF [(.iload_n 2, 1), (.aload_n 0, 1)] (by decide +kernel) (pc' := 210) (lo' := [(7, (0, (m2 35 58) + 1)), (0, (2, 35)), (1, (0, i)), (2, (0, used)), (3, (0, k)), (4, (1, mem 70 k)), (6, (0, c))]) (st' := [(2, 35), (0, used), (2, 71)]) rfl ?_
                    refine jget hF 13 59 0 59 rfl (by decide) (by decide) rfl wd_1522 (by decide +kernel) (by exact hS.k35) ?_
                    refine jblk hF [(.iload_n 3, 1), (.iadd, 1)] (by decide +kernel) (pc' := 215) (lo' := [(7, (0, (m2 35 58) + 1)), (0, (2, 35)), (1, (0, i)), (2, (0, used)), (3, (0, k)), (4, (1, mem 70 k)), (6, (0, c))]) (st' := [(0, (m_19 35 59) + k), (0, used), (2, 71)]) rfl ?_
                    refine jiast hF (by decide +kernel) (by decide) (by exact hS.k71) (by omega) (by have := hS.l71; omega) ?_
                    refine jblk hF [(.aload_n 0, 1)] (by decide +kernel) (pc' := 217) (lo' := [(7, (0, (m2 35 58) + 1)), (0, (2, 35)), (1, (0, i)), (2, (0, used)), (3, (0, k)), (4, (1, mem 70 k)), (6, (0, c))]) (st' := [(2, 35)]) rfl ?_
                    refine jget hF 13 50 2 50 rfl (by decide) (by decide) rfl wd_1513 (by decide +kernel) (by exact hS.k35) ?_
                    rw [SR.r50 (SR.s hR_m_19 (Or.inl (by decide)))]
                    refine jblk hF [(.iload_n 2, 1), (.iload 6, 2), (.aload_n 0, 1)] (by decide +kernel) (pc' := 224) (lo' := [(7, (0, (m2 35 58) + 1)), (0, (2, 35)), (1, (0, i)), (2, (0, used)), (3, (0, k)), (4, (1, mem 70 k)), (6, (0, c))]) (st' := [(2, 35), (0, c), (0, used), (2, 72)]) rfl ?_
                    refine jget hF 13 58 0 58 rfl (by decide) (by decide) rfl wd_1521 (by decide +kernel) (by exact hS.k35) ?_
                    rw [show (set2 m_19 71 used ((m_19 35 59) + k)) 35 58 = m_19 35 58 from (s2_a (by decide))]
                    refine jicmp_ne hF (off := 8) 235 (by decide +kernel) (by decide) (by omega) (by omega) (fun h => absurd h (by omega)) (fun _ => ?_)
                    refine jblk hF [(.bipush 9, 2)] (by decide +kernel) (pc' := 232) (lo' := [(7, (0, (m2 35 58) + 1)), (0, (2, 35)), (1, (0, i)), (2, (0, used)), (3, (0, k)), (4, (1, mem 70 k)), (6, (0, c))]) (st' := [(0, 9), (0, used), (2, 72)]) rfl ?_
                    refine jgoto hF (off := 5) 237 (by decide +kernel) (by decide) ?_
                    have hCo : 9 = coC (mem 35 58) c := by unfold coC; first | exact (if_pos (by omega)).symm | exact (if_neg (by omega)).symm
                    refine jiast hF (by decide +kernel) (by decide) (by exact hS.k72) (by omega) (by have := hS.l72; omega) ?_
                    refine jblk hF [(.aload_n 0, 1)] (by decide +kernel) (pc' := 239) (lo' := [(7, (0, (m2 35 58) + 1)), (0, (2, 35)), (1, (0, i)), (2, (0, used)), (3, (0, k)), (4, (1, mem 70 k)), (6, (0, c))]) (st' := [(2, 35)]) rfl ?_
                    refine jget hF 13 51 2 51 rfl (by decide) (by decide) rfl wd_1514 (by decide +kernel) (by exact hS.k35) ?_
                    rw [SR.r51 (SR.s (SR.s hR_m_19 (Or.inl (by decide))) (Or.inl (by decide)))]
                    refine jblk hF [(.iload_n 2, 1), (.lload 4, 2)] (by decide +kernel) (pc' := 245) (lo' := [(7, (0, (m2 35 58) + 1)), (0, (2, 35)), (1, (0, i)), (2, (0, used)), (3, (0, k)), (4, (1, mem 70 k)), (6, (0, c))]) (st' := [(1, mem 70 k), (0, used), (2, 73)]) rfl ?_
                    refine jlast hF (by decide +kernel) (by decide) (by exact hS.k73) (by omega) (by have := hS.l73; omega) ?_
                    have hfs9 : FS mem (set2 (set2 (set2 m_19 71 used ((m_19 35 59) + k)) 72 used 9) 73 used (mem 70 k)) := ((hfs2.tr (FS.of70 hb9)).tr (FS.s _ _ (by decide))).tr ((FS.s _ _ (by decide)).tr (FS.s _ _ (by decide)))
                    have g57 : (set2 (set2 (set2 m_19 71 used ((m_19 35 59) + k)) 72 used 9) 73 used (mem 70 k)) 35 57 = mem 35 57 := hfs9 35 57 (by decide) (by decide) (by decide) (by decide) (by decide) (by decide) (by decide) (by decide)
                    have g58 : (set2 (set2 (set2 m_19 71 used ((m_19 35 59) + k)) 72 used 9) 73 used (mem 70 k)) 35 58 = mem 35 58 := hfs9 35 58 (by decide) (by decide) (by decide) (by decide) (by decide) (by decide) (by decide) (by decide)
                    have g59 : (set2 (set2 (set2 m_19 71 used ((m_19 35 59) + k)) 72 used 9) 73 used (mem 70 k)) 35 59 = mem 35 59 := hfs9 35 59 (by decide) (by decide) (by decide) (by decide) (by decide) (by decide) (by decide) (by decide)
                    have hrs9 : ∀ x : Int, 0 ≤ x → x < mem 35 57 → (set2 (set2 (set2 m_19 71 used ((m_19 35 59) + k)) 72 used 9) 73 used (mem 70 k)) 70 x = markJ (mem 35 57) rs k (tmC (mem 35 58) c) (-(rs k)) (tmC (mem 35 58) c + 1) x := fun x h1 h2 => by rw [s2_a (by decide), s2_a (by decide), s2_a (by decide), hx9 x, hT, f57, hrk2]; exact markJ_congr hz70b x h1 h2
                    have htr9 : TRY (set2 (set2 (set2 m_19 71 used ((m_19 35 59) + k)) 72 used 9) 73 used (mem 70 k)) 2 (upI tl 1 (mem 35 59 + k)) (upI tc 1 (coC (mem 35 58) c)) (upI ta 1 (rs k)) := by rw [hu]; exact try_up (htr2.of ⟨funext fun j => hb9 71 j (by decide), funext fun j => hb9 72 j (by decide), funext fun j => hb9 73 j (by decide)⟩) (by omega) hCo hrk2
                    have hst9 : SKST (set2 (set2 (set2 m_19 71 used ((m_19 35 59) + k)) 72 used 9) 73 used (mem 70 k)) (foldC FF c.toNat S) := hst2.of (fun a j q1 q2 q3 q4 => by rw [s2_a q4, s2_a q3, s2_a q2, hb9 a j q1])
                    refine jblk hF [(.aload_n 0, 1), (.iload_n 3, 1), (.iconst 1, 1), (.iadd, 1), (.iload_n 2, 1), (.iconst 1, 1), (.iadd, 1)] (by decide +kernel) (pc' := 253) (lo' := [(7, (0, (m2 35 58) + 1)), (0, (2, 35)), (1, (0, i)), (2, (0, used)), (3, (0, k)), (4, (1, mem 70 k)), (6, (0, c))]) (st' := [(0, used + 1), (0, k + 1), (2, 35)]) rfl ?_
                    refine jcallV hF (c_seek2 hG hS (SR.s (SR.s (SR.s hR_m_19 (Or.inl (by decide))) (Or.inl (by decide))) (Or.inl (by decide))) (k + 1) (used + 1) (by exact (markJ (mem 35 57) rs k (tmC (mem 35 58) c) (-(rs k)) (tmC (mem 35 58) c + 1))) (by exact (upI tl 1 (mem 35 59 + k))) (by exact (upI tc 1 (coC (mem 35 58) c))) (by exact (upI ta 1 (rs k))) (by exact (foldC FF c.toNat S)) (by omega) (by first | omega | (rw [g57]; omega) | (rw [g58]; omega) | (rw [g59]; omega)) (by first | omega | (rw [g57]; omega) | (rw [g58]; omega) | (rw [g59]; omega)) (by first | omega | (rw [g57]; omega) | (rw [g58]; omega) | (rw [g59]; omega)) (by first | omega | (rw [g57]; omega) | (rw [g58]; omega) | (rw [g59]; omega)) (by rw [g57]; exact hrs9) (by exact htr9) (by exact hst9) (by exact hsb2)) MW_X12_seek 13 (by decide) (by exact hS.k35) wd_2117 wd_2119 wd_p96 (by decide +kernel) [] rfl rfl (by decide) (Nat.le_of_ble_eq_true rfl) (by decide) (kMV (fun m_22 h_23 => ?_))
                    obtain ⟨hR_m_22, h_23⟩ := h_23
                    obtain ⟨hfs8, hz8, htr8, hst8⟩ := h_23
                    rw [g57] at hz8
                    rw [g57, g58, g59] at hst8
                    have i57 : m_22 35 57 = mem 35 57 := (hfs9.tr hfs8) 35 57 (by decide) (by decide) (by decide) (by decide) (by decide) (by decide) (by decide) (by decide)
                    refine jblk hF [(.aload_n 0, 1), (.iload_n 3, 1), (.iload 7, 2), (.lload 4, 2)] (by decide +kernel) (pc' := 262) (lo' := [(7, (0, (m2 35 58) + 1)), (0, (2, 35)), (1, (0, i)), (2, (0, used)), (3, (0, k)), (4, (1, mem 70 k)), (6, (0, c))]) (st' := [(1, mem 70 k), (0, (m2 35 58) + 1), (0, k), (2, 35)]) rfl ?_
                    refine jcallV hF (c_X12_mark hG hS hR_m_22 k ((m2 35 58) + 1) (mem 70 k) (by omega) (by omega) (by first | omega | (rw [e57]; omega))) MW_X12_mark 13 (by decide) (by exact hS.k35) wd_2121 wd_2123 wd_p97 (by decide +kernel) [] rfl rfl (by decide) (Nat.le_of_ble_eq_true rfl) (by decide) (kMV (fun m_24 h_25 => ?_))
                    obtain ⟨hR_m_24, h_25⟩ := h_25
                    have hfs3 : FS mem m_24 := (hfs9.tr hfs8).tr (FS.of70 h_25.1)
                    have hz3 : ∀ x : Int, 0 ≤ x → x < mem 35 57 → m_24 70 x = rs x := fun x h1 h2 => by rw [h_25.2 x, hT, i57, hrk2, markJ_congr (fun y h1 h2 => (hz8 y h1 h2).trans (hrs9 y h1 h2)) x h1 h2]; exact markJ_back x
                    have htr3 : TRY m_24 1 tl tc ta := (try_dn (u := 1) htr8).of ⟨funext fun j => h_25.1 71 j (by decide), funext fun j => h_25.1 72 j (by decide), funext fun j => h_25.1 73 j (by decide)⟩
                    have hst3 : SKST m_24 (FF c (foldC FF c.toNat S)) := by rw [hFFa]; exact hst8.of (fun a j q1 _ _ _ => h_25.1 a j q1)
                    refine jblk hF [(.iinc 6 1, 3)] (by decide +kernel) (pc' := 268) (lo' := [(6, (0, c + 1)), (7, (0, (m2 35 58) + 1)), (0, (2, 35)), (1, (0, i)), (2, (0, used)), (3, (0, k)), (4, (1, mem 70 k))]) (st' := []) rfl ?_
                    refine jgoto hF (off := (-110)) 158 (by decide +kernel) (by decide) ?_
                    refine jsub [2, 3, 4, 5, 6, 0] rfl ?_
                    refine ih_7 (c + 1) m_24 ?_ ?_ ?_ ?_ ?_ ?_ ?_ ?_
                    · omega
                    · assumption
                    · exact hfs3
                    · exact hz3
                    · exact htr3
                    · rw [foldC_s (by omega)]; exact hst3
                    · rw [foldC_s (by omega), hFFa]; exact hSBF _ _ _ _ _ _ hsb2
                    · omega
            refine jsub [2, 3, 4, 5, 1, 0] rfl ?_
            refine L_8 _ 0 mem ?_ ?_ ?_ ?_ ?_ ?_ ?_ (Nat.lt_succ_self _)
            · omega
            · exact hR
            · exact FS.rf
            · exact hrs
            · exact htr
            · exact hst
            · exact hsb
          · refine jvret hF hr (by decide +kernel) ?_
            exact lMV ⟨hR, by exfalso; omega⟩
        · refine jblk hF [(.aload_n 0, 1)] (by decide +kernel) (pc' := 36) (lo' := [(0, (2, 35)), (1, (0, i)), (2, (0, used)), (3, (0, k))]) (st' := [(2, 35)]) rfl ?_
          refine jget hF 13 55 0 55 rfl (by decide) (by decide) rfl wd_1518 (by decide +kernel) (by exact hS.k35) ?_
          refine jblk hF [(.iconst (-1), 1)] (by decide +kernel) (pc' := 40) (lo' := [(0, (2, 35)), (1, (0, i)), (2, (0, used)), (3, (0, k))]) (st' := [(0, (-1)), (0, mem 35 55)]) rfl ?_
          refine jicmp_eq hF (off := 11) 51 (by decide +kernel) (by decide) (by omega) (by decide) (fun h_26 => ?_) (fun h_26 => ?_)
          · have hkN : k = mem 35 57 := by omega
            refine jblk hF [(.aload_n 0, 1), (.iload_n 2, 1)] (by decide +kernel) (pc' := 53) (lo' := [(0, (2, 35)), (1, (0, i)), (2, (0, used)), (3, (0, k))]) (st' := [(0, used), (2, 35)]) rfl ?_
            refine jput hF 13 55 0 55 rfl (by decide) (by decide) rfl wd_1518 (by decide +kernel) rfl (Or.inl rfl) (by exact hS.k35) (fun h => by cases h) ?_
            refine jblk hF [(.aload_n 0, 1), (.iconst 0, 1)] (by decide +kernel) (pc' := 58) (lo' := [(0, (2, 35)), (1, (0, i)), (2, (0, used)), (3, (0, k))]) (st' := [(0, 0), (2, 35)]) rfl ?_
            refine jput hF 13 56 0 56 rfl (by decide) (by decide) rfl wd_1519 (by decide +kernel) rfl (Or.inl rfl) (by exact hS.k35) (fun h => by cases h) ?_
            refine jblk hF [(.iconst 0, 1), (.istore 4, 2)] (by decide +kernel) (pc' := 64) (lo' := [(4, (0, 0)), (0, (2, 35)), (1, (0, i)), (2, (0, used)), (3, (0, k))]) (st' := []) rfl ?_
            have L_28 : ∀ (fu_29 : Nat) (j : Int) (m1 : Int → Int → Int), (0 ≤ j ∧ j ≤ 1) → (SR m1) → (FS mem m1) → (m1 70 = mem 70 ∧ m1 71 = mem 71 ∧ m1 72 = mem 72 ∧ m1 73 = mem 73) → (m1 35 55 = used ∧ m1 35 56 = 0) → (m1 74 = cpN j tl S.2.2.1 ∧ m1 75 = cpN j tc S.2.2.2.1 ∧ m1 76 = cpN j ta S.2.2.2.2) →  (4 - j).toNat < fu_29 → J z g 8 0 0 (QM z g 0 0 (pMV (fun mem' => SR mem' ∧ (FS mem mem' ∧ (∀ x : Int, 0 ≤ x → x < mem 35 57 → mem' 70 x = mem 70 x) ∧ TRY mem' 1 tl tc ta ∧ SKST mem' (seekF (mem 35 57) (mem 35 58) (mem 35 59) 3 rs i tl tc ta S))) kd ln sz)) 64 [(0, (2, 35)), (1, (0, i)), (2, (0, used)), (3, (0, k)), (4, (0, j))] [] kd ln m1 sz := by
              intro fu_29
              induction fu_29 with
              | zero => intro j m1 _ _ _ _ _ _ hm; omega
              | succ fu_29 ih_27 =>
                intro j m1 hj hR_m1 hfs hz70 hz55 hz74 hm1
                refine jblk hF [(.iload 4, 2), (.iload_n 2, 1)] (by decide +kernel) (pc' := 67) (lo' := [(0, (2, 35)), (1, (0, i)), (2, (0, used)), (3, (0, k)), (4, (0, j))]) (st' := [(0, used), (0, j)]) rfl ?_
                refine jicmp_ge hF (off := 51) 118 (by decide +kernel) (by decide) (by omega) (by omega) (fun h_30 => ?_) (fun h_30 => ?_)
                · refine jblk hF [(.aload_n 0, 1), (.dup, 1)] (by decide +kernel) (pc' := 120) (lo' := [(0, (2, 35)), (1, (0, i)), (2, (0, used)), (3, (0, k)), (4, (0, j))]) (st' := [(2, 35), (2, 35)]) rfl ?_
                  refine jget hF 13 56 0 56 rfl (by decide) (by decide) rfl wd_1519 (by decide +kernel) (by exact hS.k35) ?_
                  refine jblk hF [(.iload_n 2, 1), (.aload_n 0, 1)] (by decide +kernel) (pc' := 125) (lo' := [(0, (2, 35)), (1, (0, i)), (2, (0, used)), (3, (0, k)), (4, (0, j))]) (st' := [(2, 35), (0, used), (0, m1 35 56), (2, 35)]) rfl ?_
                  refine jget hF 13 55 0 55 rfl (by decide) (by decide) rfl wd_1518 (by decide +kernel) (by exact hS.k35) ?_
                  refine jicmp_ne hF (off := 7) 135 (by decide +kernel) (by decide) (by omega) (by omega) (fun h_31 => ?_) (fun h_31 => ?_)
                  · refine jblk hF [(.iconst 0, 1), (.iadd, 1)] (by decide +kernel) (pc' := 137) (lo' := [(0, (2, 35)), (1, (0, i)), (2, (0, used)), (3, (0, k)), (4, (0, j))]) (st' := [(0, (m1 35 56) + 0), (2, 35)]) rfl ?_
                    refine jput hF 13 56 0 56 rfl (by decide) (by decide) rfl wd_1519 (by decide +kernel) rfl (Or.inl rfl) (by exact hS.k35) (fun h => by cases h) ?_
                    refine jvret hF hr (by decide +kernel) ?_
                    exact lMV ⟨(SR.s hR_m1 (Or.inr (by decide))), by have hkN : k = mem 35 57 := (by omega); have hsT : skipN rs i (mem 35 57 - i).toNat = mem 35 57 := (by rw [hsk, hkN]; exact skip_n); rw [seekT (u := 1) (by decide) hsT]; first | exact ⟨hfs.tr (FS.p _ (by decide)), fun x _ _ => congrFun hz70.1 x, htr.of ⟨hz70.2.1, hz70.2.2.1, hz70.2.2.2⟩, fin_new (by omega) (by rw [hz55.1]; exact hu) (by rw [show (1 : Int) = j by omega]; exact hz74) (by omega)⟩ | exact ⟨FS.p _ (by decide), fun x _ _ => rfl, htr, fin_keep (by omega) hst (by first | (rw [if_pos (by omega)]; omega) | (rw [if_neg (by omega)]; omega))⟩ | (exfalso; omega)⟩
                  · refine jblk hF [(.iconst 1, 1)] (by decide +kernel) (pc' := 132) (lo' := [(0, (2, 35)), (1, (0, i)), (2, (0, used)), (3, (0, k)), (4, (0, j))]) (st' := [(0, 1), (0, m1 35 56), (2, 35)]) rfl ?_
                    refine jgoto hF (off := 4) 136 (by decide +kernel) (by decide) ?_
                    refine jblk hF [(.iadd, 1)] (by decide +kernel) (pc' := 137) (lo' := [(0, (2, 35)), (1, (0, i)), (2, (0, used)), (3, (0, k)), (4, (0, j))]) (st' := [(0, (m1 35 56) + 1), (2, 35)]) rfl ?_
                    refine jput hF 13 56 0 56 rfl (by decide) (by decide) rfl wd_1519 (by decide +kernel) rfl (Or.inl rfl) (by exact hS.k35) (fun h => by cases h) ?_
                    refine jvret hF hr (by decide +kernel) ?_
                    exact lMV ⟨(SR.s hR_m1 (Or.inr (by decide))), by have hkN : k = mem 35 57 := (by omega); have hsT : skipN rs i (mem 35 57 - i).toNat = mem 35 57 := (by rw [hsk, hkN]; exact skip_n); rw [seekT (u := 1) (by decide) hsT]; first | exact ⟨hfs.tr (FS.p _ (by decide)), fun x _ _ => congrFun hz70.1 x, htr.of ⟨hz70.2.1, hz70.2.2.1, hz70.2.2.2⟩, fin_new (by omega) (by rw [hz55.1]; exact hu) (by rw [show (1 : Int) = j by omega]; exact hz74) (by omega)⟩ | exact ⟨FS.p _ (by decide), fun x _ _ => rfl, htr, fin_keep (by omega) hst (by first | (rw [if_pos (by omega)]; omega) | (rw [if_neg (by omega)]; omega))⟩ | (exfalso; omega)⟩
                · refine jblk hF [(.aload_n 0, 1)] (by decide +kernel) (pc' := 71) (lo' := [(0, (2, 35)), (1, (0, i)), (2, (0, used)), (3, (0, k)), (4, (0, j))]) (st' := [(2, 35)]) rfl ?_
                  refine jget hF 13 52 2 52 rfl (by decide) (by decide) rfl wd_1515 (by decide +kernel) (by exact hS.k35) ?_
                  rw [SR.r52 hR_m1]
                  refine jblk hF [(.iload 4, 2), (.aload_n 0, 1)] (by decide +kernel) (pc' := 77) (lo' := [(0, (2, 35)), (1, (0, i)), (2, (0, used)), (3, (0, k)), (4, (0, j))]) (st' := [(2, 35), (0, j), (2, 74)]) rfl ?_
                  refine jget hF 13 49 2 49 rfl (by decide) (by decide) rfl wd_1512 (by decide +kernel) (by exact hS.k35) ?_
                  rw [SR.r49 hR_m1]
                  refine jblk hF [(.iload 4, 2)] (by decide +kernel) (pc' := 82) (lo' := [(0, (2, 35)), (1, (0, i)), (2, (0, used)), (3, (0, k)), (4, (0, j))]) (st' := [(0, j), (2, 71), (0, j), (2, 74)]) rfl ?_
                  refine jiald hF (by decide +kernel) (by exact hS.k71) (by omega) (by have := hS.l71; omega) ?_
                  refine jiast hF (by decide +kernel) (by decide) (by exact hS.k74) (by omega) (by have := hS.l74; omega) ?_
                  refine jblk hF [(.aload_n 0, 1)] (by decide +kernel) (pc' := 85) (lo' := [(0, (2, 35)), (1, (0, i)), (2, (0, used)), (3, (0, k)), (4, (0, j))]) (st' := [(2, 35)]) rfl ?_
                  refine jget hF 13 53 2 53 rfl (by decide) (by decide) rfl wd_1516 (by decide +kernel) (by exact hS.k35) ?_
                  rw [SR.r53 (SR.s hR_m1 (Or.inl (by decide)))]
                  refine jblk hF [(.iload 4, 2), (.aload_n 0, 1)] (by decide +kernel) (pc' := 91) (lo' := [(0, (2, 35)), (1, (0, i)), (2, (0, used)), (3, (0, k)), (4, (0, j))]) (st' := [(2, 35), (0, j), (2, 75)]) rfl ?_
                  refine jget hF 13 50 2 50 rfl (by decide) (by decide) rfl wd_1513 (by decide +kernel) (by exact hS.k35) ?_
                  rw [SR.r50 (SR.s hR_m1 (Or.inl (by decide)))]
                  refine jblk hF [(.iload 4, 2)] (by decide +kernel) (pc' := 96) (lo' := [(0, (2, 35)), (1, (0, i)), (2, (0, used)), (3, (0, k)), (4, (0, j))]) (st' := [(0, j), (2, 72), (0, j), (2, 75)]) rfl ?_
                  refine jiald hF (by decide +kernel) (by exact hS.k72) (by omega) (by have := hS.l72; omega) ?_
                  rw [show (set2 m1 74 j (m1 71 j)) 72 j = m1 72 j from (s2_a (by decide))]
                  refine jiast hF (by decide +kernel) (by decide) (by exact hS.k75) (by omega) (by have := hS.l75; omega) ?_
                  refine jblk hF [(.aload_n 0, 1)] (by decide +kernel) (pc' := 99) (lo' := [(0, (2, 35)), (1, (0, i)), (2, (0, used)), (3, (0, k)), (4, (0, j))]) (st' := [(2, 35)]) rfl ?_
                  refine jget hF 13 54 2 54 rfl (by decide) (by decide) rfl wd_1517 (by decide +kernel) (by exact hS.k35) ?_
                  rw [SR.r54 (SR.s (SR.s hR_m1 (Or.inl (by decide))) (Or.inl (by decide)))]
                  refine jblk hF [(.iload 4, 2), (.aload_n 0, 1)] (by decide +kernel) (pc' := 105) (lo' := [(0, (2, 35)), (1, (0, i)), (2, (0, used)), (3, (0, k)), (4, (0, j))]) (st' := [(2, 35), (0, j), (2, 76)]) rfl ?_
                  refine jget hF 13 51 2 51 rfl (by decide) (by decide) rfl wd_1514 (by decide +kernel) (by exact hS.k35) ?_
                  rw [SR.r51 (SR.s (SR.s hR_m1 (Or.inl (by decide))) (Or.inl (by decide)))]
                  refine jblk hF [(.iload 4, 2)] (by decide +kernel) (pc' := 110) (lo' := [(0, (2, 35)), (1, (0, i)), (2, (0, used)), (3, (0, k)), (4, (0, j))]) (st' := [(0, j), (2, 73), (0, j), (2, 76)]) rfl ?_
                  refine jlald hF (by decide +kernel) (by exact hS.k73) (by omega) (by have := hS.l73; omega) ?_
                  rw [show (set2 (set2 m1 74 j (m1 71 j)) 75 j (m1 72 j)) 73 j = m1 73 j from ((s2_a (by decide)).trans (s2_a (by decide)))]
                  refine jlast hF (by decide +kernel) (by decide) (by exact hS.k76) (by omega) (by have := hS.l76; omega) ?_
                  refine jblk hF [(.iinc 4 1, 3)] (by decide +kernel) (pc' := 115) (lo' := [(4, (0, j + 1)), (0, (2, 35)), (1, (0, i)), (2, (0, used)), (3, (0, k))]) (st' := []) rfl ?_
                  refine jgoto hF (off := (-51)) 64 (by decide +kernel) (by decide) ?_
                  refine jsub [1, 2, 3, 4, 0] rfl ?_
                  refine ih_27 (j + 1) (set2 (set2 (set2 m1 74 j (m1 71 j)) 75 j (m1 72 j)) 76 j (m1 73 j)) ?_ ?_ ?_ ?_ ?_ ?_ ?_
                  · omega
                  · exact ((hR_m1.s (Or.inl (by decide))).s (Or.inl (by decide))).s (Or.inl (by decide))
                  · exact ((hfs.tr (FS.s _ _ (by decide))).tr (FS.s _ _ (by decide))).tr (FS.s _ _ (by decide))
                  · exact ⟨hz70.1, hz70.2.1, hz70.2.2.1, hz70.2.2.2⟩
                  · exact hz55
                  · have h9 := htr j (by omega) (by omega); exact cp3 (by omega) hz74 ⟨by rw [hz70.2.1]; exact h9.1, by rw [hz70.2.2.1]; exact h9.2.1, by rw [hz70.2.2.2]; exact h9.2.2⟩
                  · omega
            refine jsub [1, 2, 3, 4, 0] rfl ?_
            refine L_28 _ 0 (set2 (set2 mem 35 55 used) 35 56 0) ?_ ?_ ?_ ?_ ?_ ?_ (Nat.lt_succ_self _)
            · omega
            · exact (hR.s (Or.inr (by decide))).s (Or.inr (by decide))
            · exact (FS.p _ (by decide)).tr (FS.p _ (by decide))
            · exact ⟨rfl, rfl, rfl, rfl⟩
            · exact ⟨by rw [s2_k (by decide), s2_s], by rw [s2_s]⟩
            · exact ⟨cpN_0 hst.2.2.1, cpN_0 hst.2.2.2.1, cpN_0 hst.2.2.2.2⟩
          · refine jblk hF [(.iload_n 2, 1), (.aload_n 0, 1)] (by decide +kernel) (pc' := 45) (lo' := [(0, (2, 35)), (1, (0, i)), (2, (0, used)), (3, (0, k))]) (st' := [(2, 35), (0, used)]) rfl ?_
            refine jget hF 13 55 0 55 rfl (by decide) (by decide) rfl wd_1518 (by decide +kernel) (by exact hS.k35) ?_
            refine jicmp_ge hF (off := 70) 118 (by decide +kernel) (by decide) (by omega) (by omega) (fun h_32 => ?_) (fun h_32 => ?_)
            · refine jblk hF [(.aload_n 0, 1), (.dup, 1)] (by decide +kernel) (pc' := 120) (lo' := [(0, (2, 35)), (1, (0, i)), (2, (0, used)), (3, (0, k))]) (st' := [(2, 35), (2, 35)]) rfl ?_
              refine jget hF 13 56 0 56 rfl (by decide) (by decide) rfl wd_1519 (by decide +kernel) (by exact hS.k35) ?_
              refine jblk hF [(.iload_n 2, 1), (.aload_n 0, 1)] (by decide +kernel) (pc' := 125) (lo' := [(0, (2, 35)), (1, (0, i)), (2, (0, used)), (3, (0, k))]) (st' := [(2, 35), (0, used), (0, mem 35 56), (2, 35)]) rfl ?_
              refine jget hF 13 55 0 55 rfl (by decide) (by decide) rfl wd_1518 (by decide +kernel) (by exact hS.k35) ?_
              refine jicmp_ne hF (off := 7) 135 (by decide +kernel) (by decide) (by omega) (by omega) (fun h_33 => ?_) (fun h_33 => ?_)
              · refine jblk hF [(.iconst 0, 1), (.iadd, 1)] (by decide +kernel) (pc' := 137) (lo' := [(0, (2, 35)), (1, (0, i)), (2, (0, used)), (3, (0, k))]) (st' := [(0, (mem 35 56) + 0), (2, 35)]) rfl ?_
                refine jput hF 13 56 0 56 rfl (by decide) (by decide) rfl wd_1519 (by decide +kernel) rfl (Or.inl rfl) (by exact hS.k35) (fun h => by cases h) ?_
                refine jvret hF hr (by decide +kernel) ?_
                exact lMV ⟨(SR.s hR (Or.inr (by decide))), by have hkN : k = mem 35 57 := (by omega); have hsT : skipN rs i (mem 35 57 - i).toNat = mem 35 57 := (by rw [hsk, hkN]; exact skip_n); rw [seekT (u := 1) (by decide) hsT]; first | exact ⟨hfs.tr (FS.p _ (by decide)), fun x _ _ => congrFun hz70.1 x, htr.of ⟨hz70.2.1, hz70.2.2.1, hz70.2.2.2⟩, fin_new (by omega) (by rw [hz55.1]; exact hu) (by rw [show (1 : Int) = j by omega]; exact hz74) (by omega)⟩ | exact ⟨FS.p _ (by decide), fun x _ _ => rfl, htr, fin_keep (by omega) hst (by first | (rw [if_pos (by omega)]; omega) | (rw [if_neg (by omega)]; omega))⟩ | (exfalso; omega)⟩
              · refine jblk hF [(.iconst 1, 1)] (by decide +kernel) (pc' := 132) (lo' := [(0, (2, 35)), (1, (0, i)), (2, (0, used)), (3, (0, k))]) (st' := [(0, 1), (0, mem 35 56), (2, 35)]) rfl ?_
                refine jgoto hF (off := 4) 136 (by decide +kernel) (by decide) ?_
                refine jblk hF [(.iadd, 1)] (by decide +kernel) (pc' := 137) (lo' := [(0, (2, 35)), (1, (0, i)), (2, (0, used)), (3, (0, k))]) (st' := [(0, (mem 35 56) + 1), (2, 35)]) rfl ?_
                refine jput hF 13 56 0 56 rfl (by decide) (by decide) rfl wd_1519 (by decide +kernel) rfl (Or.inl rfl) (by exact hS.k35) (fun h => by cases h) ?_
                refine jvret hF hr (by decide +kernel) ?_
                exact lMV ⟨(SR.s hR (Or.inr (by decide))), by have hkN : k = mem 35 57 := (by omega); have hsT : skipN rs i (mem 35 57 - i).toNat = mem 35 57 := (by rw [hsk, hkN]; exact skip_n); rw [seekT (u := 1) (by decide) hsT]; first | exact ⟨hfs.tr (FS.p _ (by decide)), fun x _ _ => congrFun hz70.1 x, htr.of ⟨hz70.2.1, hz70.2.2.1, hz70.2.2.2⟩, fin_new (by omega) (by rw [hz55.1]; exact hu) (by rw [show (1 : Int) = j by omega]; exact hz74) (by omega)⟩ | exact ⟨FS.p _ (by decide), fun x _ _ => rfl, htr, fin_keep (by omega) hst (by first | (rw [if_pos (by omega)]; omega) | (rw [if_neg (by omega)]; omega))⟩ | (exfalso; omega)⟩
            · have hkN : k = mem 35 57 := by omega
              refine jblk hF [(.aload_n 0, 1), (.iload_n 2, 1)] (by decide +kernel) (pc' := 53) (lo' := [(0, (2, 35)), (1, (0, i)), (2, (0, used)), (3, (0, k))]) (st' := [(0, used), (2, 35)]) rfl ?_
              refine jput hF 13 55 0 55 rfl (by decide) (by decide) rfl wd_1518 (by decide +kernel) rfl (Or.inl rfl) (by exact hS.k35) (fun h => by cases h) ?_
              refine jblk hF [(.aload_n 0, 1), (.iconst 0, 1)] (by decide +kernel) (pc' := 58) (lo' := [(0, (2, 35)), (1, (0, i)), (2, (0, used)), (3, (0, k))]) (st' := [(0, 0), (2, 35)]) rfl ?_
              refine jput hF 13 56 0 56 rfl (by decide) (by decide) rfl wd_1519 (by decide +kernel) rfl (Or.inl rfl) (by exact hS.k35) (fun h => by cases h) ?_
              refine jblk hF [(.iconst 0, 1), (.istore 4, 2)] (by decide +kernel) (pc' := 64) (lo' := [(4, (0, 0)), (0, (2, 35)), (1, (0, i)), (2, (0, used)), (3, (0, k))]) (st' := []) rfl ?_
              have L_35 : ∀ (fu_36 : Nat) (j : Int) (m1 : Int → Int → Int), (0 ≤ j ∧ j ≤ 1) → (SR m1) → (FS mem m1) → (m1 70 = mem 70 ∧ m1 71 = mem 71 ∧ m1 72 = mem 72 ∧ m1 73 = mem 73) → (m1 35 55 = used ∧ m1 35 56 = 0) → (m1 74 = cpN j tl S.2.2.1 ∧ m1 75 = cpN j tc S.2.2.2.1 ∧ m1 76 = cpN j ta S.2.2.2.2) →  (4 - j).toNat < fu_36 → J z g 8 0 0 (QM z g 0 0 (pMV (fun mem' => SR mem' ∧ (FS mem mem' ∧ (∀ x : Int, 0 ≤ x → x < mem 35 57 → mem' 70 x = mem 70 x) ∧ TRY mem' 1 tl tc ta ∧ SKST mem' (seekF (mem 35 57) (mem 35 58) (mem 35 59) 3 rs i tl tc ta S))) kd ln sz)) 64 [(0, (2, 35)), (1, (0, i)), (2, (0, used)), (3, (0, k)), (4, (0, j))] [] kd ln m1 sz := by
                intro fu_36
                induction fu_36 with
                | zero => intro j m1 _ _ _ _ _ _ hm; omega
                | succ fu_36 ih_34 =>
                  intro j m1 hj hR_m1 hfs hz70 hz55 hz74 hm1
                  refine jblk hF [(.iload 4, 2), (.iload_n 2, 1)] (by decide +kernel) (pc' := 67) (lo' := [(0, (2, 35)), (1, (0, i)), (2, (0, used)), (3, (0, k)), (4, (0, j))]) (st' := [(0, used), (0, j)]) rfl ?_
                  refine jicmp_ge hF (off := 51) 118 (by decide +kernel) (by decide) (by omega) (by omega) (fun h_37 => ?_) (fun h_37 => ?_)
                  · refine jblk hF [(.aload_n 0, 1), (.dup, 1)] (by decide +kernel) (pc' := 120) (lo' := [(0, (2, 35)), (1, (0, i)), (2, (0, used)), (3, (0, k)), (4, (0, j))]) (st' := [(2, 35), (2, 35)]) rfl ?_
                    refine jget hF 13 56 0 56 rfl (by decide) (by decide) rfl wd_1519 (by decide +kernel) (by exact hS.k35) ?_
                    refine jblk hF [(.iload_n 2, 1), (.aload_n 0, 1)] (by decide +kernel) (pc' := 125) (lo' := [(0, (2, 35)), (1, (0, i)), (2, (0, used)), (3, (0, k)), (4, (0, j))]) (st' := [(2, 35), (0, used), (0, m1 35 56), (2, 35)]) rfl ?_
                    refine jget hF 13 55 0 55 rfl (by decide) (by decide) rfl wd_1518 (by decide +kernel) (by exact hS.k35) ?_
                    refine jicmp_ne hF (off := 7) 135 (by decide +kernel) (by decide) (by omega) (by omega) (fun h_38 => ?_) (fun h_38 => ?_)
                    · refine jblk hF [(.iconst 0, 1), (.iadd, 1)] (by decide +kernel) (pc' := 137) (lo' := [(0, (2, 35)), (1, (0, i)), (2, (0, used)), (3, (0, k)), (4, (0, j))]) (st' := [(0, (m1 35 56) + 0), (2, 35)]) rfl ?_
                      refine jput hF 13 56 0 56 rfl (by decide) (by decide) rfl wd_1519 (by decide +kernel) rfl (Or.inl rfl) (by exact hS.k35) (fun h => by cases h) ?_
                      refine jvret hF hr (by decide +kernel) ?_
                      exact lMV ⟨(SR.s hR_m1 (Or.inr (by decide))), by have hkN : k = mem 35 57 := (by omega); have hsT : skipN rs i (mem 35 57 - i).toNat = mem 35 57 := (by rw [hsk, hkN]; exact skip_n); rw [seekT (u := 1) (by decide) hsT]; first | exact ⟨hfs.tr (FS.p _ (by decide)), fun x _ _ => congrFun hz70.1 x, htr.of ⟨hz70.2.1, hz70.2.2.1, hz70.2.2.2⟩, fin_new (by omega) (by rw [hz55.1]; exact hu) (by rw [show (1 : Int) = j by omega]; exact hz74) (by omega)⟩ | exact ⟨FS.p _ (by decide), fun x _ _ => rfl, htr, fin_keep (by omega) hst (by first | (rw [if_pos (by omega)]; omega) | (rw [if_neg (by omega)]; omega))⟩ | (exfalso; omega)⟩
                    · refine jblk hF [(.iconst 1, 1)] (by decide +kernel) (pc' := 132) (lo' := [(0, (2, 35)), (1, (0, i)), (2, (0, used)), (3, (0, k)), (4, (0, j))]) (st' := [(0, 1), (0, m1 35 56), (2, 35)]) rfl ?_
                      refine jgoto hF (off := 4) 136 (by decide +kernel) (by decide) ?_
                      refine jblk hF [(.iadd, 1)] (by decide +kernel) (pc' := 137) (lo' := [(0, (2, 35)), (1, (0, i)), (2, (0, used)), (3, (0, k)), (4, (0, j))]) (st' := [(0, (m1 35 56) + 1), (2, 35)]) rfl ?_
                      refine jput hF 13 56 0 56 rfl (by decide) (by decide) rfl wd_1519 (by decide +kernel) rfl (Or.inl rfl) (by exact hS.k35) (fun h => by cases h) ?_
                      refine jvret hF hr (by decide +kernel) ?_
                      exact lMV ⟨(SR.s hR_m1 (Or.inr (by decide))), by have hkN : k = mem 35 57 := (by omega); have hsT : skipN rs i (mem 35 57 - i).toNat = mem 35 57 := (by rw [hsk, hkN]; exact skip_n); rw [seekT (u := 1) (by decide) hsT]; first | exact ⟨hfs.tr (FS.p _ (by decide)), fun x _ _ => congrFun hz70.1 x, htr.of ⟨hz70.2.1, hz70.2.2.1, hz70.2.2.2⟩, fin_new (by omega) (by rw [hz55.1]; exact hu) (by rw [show (1 : Int) = j by omega]; exact hz74) (by omega)⟩ | exact ⟨FS.p _ (by decide), fun x _ _ => rfl, htr, fin_keep (by omega) hst (by first | (rw [if_pos (by omega)]; omega) | (rw [if_neg (by omega)]; omega))⟩ | (exfalso; omega)⟩
                  · refine jblk hF [(.aload_n 0, 1)] (by decide +kernel) (pc' := 71) (lo' := [(0, (2, 35)), (1, (0, i)), (2, (0, used)), (3, (0, k)), (4, (0, j))]) (st' := [(2, 35)]) rfl ?_
                    refine jget hF 13 52 2 52 rfl (by decide) (by decide) rfl wd_1515 (by decide +kernel) (by exact hS.k35) ?_
                    rw [SR.r52 hR_m1]
                    refine jblk hF [(.iload 4, 2), (.aload_n 0, 1)] (by decide +kernel) (pc' := 77) (lo' := [(0, (2, 35)), (1, (0, i)), (2, (0, used)), (3, (0, k)), (4, (0, j))]) (st' := [(2, 35), (0, j), (2, 74)]) rfl ?_
                    refine jget hF 13 49 2 49 rfl (by decide) (by decide) rfl wd_1512 (by decide +kernel) (by exact hS.k35) ?_
                    rw [SR.r49 hR_m1]
                    refine jblk hF [(.iload 4, 2)] (by decide +kernel) (pc' := 82) (lo' := [(0, (2, 35)), (1, (0, i)), (2, (0, used)), (3, (0, k)), (4, (0, j))]) (st' := [(0, j), (2, 71), (0, j), (2, 74)]) rfl ?_
                    refine jiald hF (by decide +kernel) (by exact hS.k71) (by omega) (by have := hS.l71; omega) ?_
                    refine jiast hF (by decide +kernel) (by decide) (by exact hS.k74) (by omega) (by have := hS.l74; omega) ?_
                    refine jblk hF [(.aload_n 0, 1)] (by decide +kernel) (pc' := 85) (lo' := [(0, (2, 35)), (1, (0, i)), (2, (0, used)), (3, (0, k)), (4, (0, j))]) (st' := [(2, 35)]) rfl ?_
                    refine jget hF 13 53 2 53 rfl (by decide) (by decide) rfl wd_1516 (by decide +kernel) (by exact hS.k35) ?_
                    rw [SR.r53 (SR.s hR_m1 (Or.inl (by decide)))]
                    refine jblk hF [(.iload 4, 2), (.aload_n 0, 1)] (by decide +kernel) (pc' := 91) (lo' := [(0, (2, 35)), (1, (0, i)), (2, (0, used)), (3, (0, k)), (4, (0, j))]) (st' := [(2, 35), (0, j), (2, 75)]) rfl ?_
                    refine jget hF 13 50 2 50 rfl (by decide) (by decide) rfl wd_1513 (by decide +kernel) (by exact hS.k35) ?_
                    rw [SR.r50 (SR.s hR_m1 (Or.inl (by decide)))]
                    refine jblk hF [(.iload 4, 2)] (by decide +kernel) (pc' := 96) (lo' := [(0, (2, 35)), (1, (0, i)), (2, (0, used)), (3, (0, k)), (4, (0, j))]) (st' := [(0, j), (2, 72), (0, j), (2, 75)]) rfl ?_
                    refine jiald hF (by decide +kernel) (by exact hS.k72) (by omega) (by have := hS.l72; omega) ?_
                    rw [show (set2 m1 74 j (m1 71 j)) 72 j = m1 72 j from (s2_a (by decide))]
                    refine jiast hF (by decide +kernel) (by decide) (by exact hS.k75) (by omega) (by have := hS.l75; omega) ?_
                    refine jblk hF [(.aload_n 0, 1)] (by decide +kernel) (pc' := 99) (lo' := [(0, (2, 35)), (1, (0, i)), (2, (0, used)), (3, (0, k)), (4, (0, j))]) (st' := [(2, 35)]) rfl ?_
                    refine jget hF 13 54 2 54 rfl (by decide) (by decide) rfl wd_1517 (by decide +kernel) (by exact hS.k35) ?_
                    rw [SR.r54 (SR.s (SR.s hR_m1 (Or.inl (by decide))) (Or.inl (by decide)))]
                    refine jblk hF [(.iload 4, 2), (.aload_n 0, 1)] (by decide +kernel) (pc' := 105) (lo' := [(0, (2, 35)), (1, (0, i)), (2, (0, used)), (3, (0, k)), (4, (0, j))]) (st' := [(2, 35), (0, j), (2, 76)]) rfl ?_
                    refine jget hF 13 51 2 51 rfl (by decide) (by decide) rfl wd_1514 (by decide +kernel) (by exact hS.k35) ?_
                    rw [SR.r51 (SR.s (SR.s hR_m1 (Or.inl (by decide))) (Or.inl (by decide)))]
                    refine jblk hF [(.iload 4, 2)] (by decide +kernel) (pc' := 110) (lo' := [(0, (2, 35)), (1, (0, i)), (2, (0, used)), (3, (0, k)), (4, (0, j))]) (st' := [(0, j), (2, 73), (0, j), (2, 76)]) rfl ?_
                    refine jlald hF (by decide +kernel) (by exact hS.k73) (by omega) (by have := hS.l73; omega) ?_
                    rw [show (set2 (set2 m1 74 j (m1 71 j)) 75 j (m1 72 j)) 73 j = m1 73 j from ((s2_a (by decide)).trans (s2_a (by decide)))]
                    refine jlast hF (by decide +kernel) (by decide) (by exact hS.k76) (by omega) (by have := hS.l76; omega) ?_
                    refine jblk hF [(.iinc 4 1, 3)] (by decide +kernel) (pc' := 115) (lo' := [(4, (0, j + 1)), (0, (2, 35)), (1, (0, i)), (2, (0, used)), (3, (0, k))]) (st' := []) rfl ?_
                    refine jgoto hF (off := (-51)) 64 (by decide +kernel) (by decide) ?_
                    refine jsub [1, 2, 3, 4, 0] rfl ?_
                    refine ih_34 (j + 1) (set2 (set2 (set2 m1 74 j (m1 71 j)) 75 j (m1 72 j)) 76 j (m1 73 j)) ?_ ?_ ?_ ?_ ?_ ?_ ?_
                    · omega
                    · exact ((hR_m1.s (Or.inl (by decide))).s (Or.inl (by decide))).s (Or.inl (by decide))
                    · exact ((hfs.tr (FS.s _ _ (by decide))).tr (FS.s _ _ (by decide))).tr (FS.s _ _ (by decide))
                    · exact ⟨hz70.1, hz70.2.1, hz70.2.2.1, hz70.2.2.2⟩
                    · exact hz55
                    · have h9 := htr j (by omega) (by omega); exact cp3 (by omega) hz74 ⟨by rw [hz70.2.1]; exact h9.1, by rw [hz70.2.2.1]; exact h9.2.1, by rw [hz70.2.2.2]; exact h9.2.2⟩
                    · omega
              refine jsub [1, 2, 3, 4, 0] rfl ?_
              refine L_35 _ 0 (set2 (set2 mem 35 55 used) 35 56 0) ?_ ?_ ?_ ?_ ?_ ?_ (Nat.lt_succ_self _)
              · omega
              · exact (hR.s (Or.inr (by decide))).s (Or.inr (by decide))
              · exact (FS.p _ (by decide)).tr (FS.p _ (by decide))
              · exact ⟨rfl, rfl, rfl, rfl⟩
              · exact ⟨by rw [s2_k (by decide), s2_s], by rw [s2_s]⟩
              · exact ⟨cpN_0 hst.2.2.1, cpN_0 hst.2.2.2.1, cpN_0 hst.2.2.2.2⟩
      · refine jblk hF [(.aload_n 0, 1)] (by decide +kernel) (pc' := 11) (lo' := [(0, (2, 35)), (1, (0, i)), (2, (0, used)), (3, (0, k))]) (st' := [(2, 35)]) rfl ?_
        refine jget hF 13 48 2 48 rfl (by decide) (by decide) rfl wd_1511 (by decide +kernel) (by exact hS.k35) ?_
        rw [SR.r48 hR]
        refine jblk hF [(.iload_n 3, 1)] (by decide +kernel) (pc' := 15) (lo' := [(0, (2, 35)), (1, (0, i)), (2, (0, used)), (3, (0, k))]) (st' := [(0, k), (2, 70)]) rfl ?_
        refine jlald hF (by decide +kernel) (by exact hS.k70) (by omega) (by have := hS.l70; omega) ?_
        refine jlconst hF (n := 0) 0 rfl (by decide +kernel) ?_
        refine jlcmpW_ne hF (off := 9) 27 (by decide +kernel) (by decide +kernel) (by decide) (fun h_39 => ?_) (fun h_39 => ?_)
        · refine jblk hF [(.iload_n 3, 1), (.aload_n 0, 1)] (by decide +kernel) (pc' := 29) (lo' := [(0, (2, 35)), (1, (0, i)), (2, (0, used)), (3, (0, k))]) (st' := [(2, 35), (0, k)]) rfl ?_
          refine jget hF 13 57 0 57 rfl (by decide) (by decide) rfl wd_1520 (by decide +kernel) (by exact hS.k35) ?_
          refine jicmp_ne hF (off := 109) 141 (by decide +kernel) (by decide) (by omega) (by omega) (fun h_40 => ?_) (fun h_40 => ?_)
          · refine jblk hF [(.iload_n 2, 1), (.iconst 4, 1)] (by decide +kernel) (pc' := 143) (lo' := [(0, (2, 35)), (1, (0, i)), (2, (0, used)), (3, (0, k))]) (st' := [(0, 4), (0, used)]) rfl ?_
            refine jicmp_ne hF (off := 4) 147 (by decide +kernel) (by decide) (by omega) (by decide) (fun h_41 => ?_) (fun h_41 => ?_)
            · have hrk2 := hrk (by omega)
              have hske : skipN rs i (mem 35 57 - i).toNat = k := by rw [hsk]; exact skip_e (by omega) (by rw [← hrk2]; first | assumption | omega)
              obtain ⟨FF, hFF⟩ : ∃ FF : Int → ST → ST, FF = (fun c => seekF (mem 35 57) (mem 35 58) (mem 35 59) 2 (markJ (mem 35 57) rs k (tmC (mem 35 58) c) (-(rs k)) (tmC (mem 35 58) c + 1)) (k + 1) (upI tl 1 (mem 35 59 + k)) (upI tc 1 (coC (mem 35 58) c)) (upI ta 1 (rs k))) := ⟨_, rfl⟩
              have hFFa := fun (c9 : Int) (S9 : ST) => congrFun (congrFun hFF c9) S9
              have hSBF := fun (rs : Int → Int) (i : Int) (tl tc ta : Int → Int) (S : ST) (h : SB S) => (seekF_bd (N := mem 35 57) (o := mem 35 58) (h := mem 35 59) 2 (by decide) rs i tl tc ta S h).1
              refine jblk hF [(.aload_n 0, 1)] (by decide +kernel) (pc' := 148) (lo' := [(0, (2, 35)), (1, (0, i)), (2, (0, used)), (3, (0, k))]) (st' := [(2, 35)]) rfl ?_
              refine jget hF 13 48 2 48 rfl (by decide) (by decide) rfl wd_1511 (by decide +kernel) (by exact hS.k35) ?_
              rw [SR.r48 hR]
              refine jblk hF [(.iload_n 3, 1)] (by decide +kernel) (pc' := 152) (lo' := [(0, (2, 35)), (1, (0, i)), (2, (0, used)), (3, (0, k))]) (st' := [(0, k), (2, 70)]) rfl ?_
              refine jlald hF (by decide +kernel) (by exact hS.k70) (by omega) (by have := hS.l70; omega) ?_
              refine jblk hF [(.lstore 4, 2), (.iconst 0, 1), (.istore 6, 2)] (by decide +kernel) (pc' := 158) (lo' := [(6, (0, 0)), (4, (1, mem 70 k)), (0, (2, 35)), (1, (0, i)), (2, (0, used)), (3, (0, k))]) (st' := []) rfl ?_
              have L_43 : ∀ (fu_44 : Nat) (c : Int) (m2 : Int → Int → Int), (0 ≤ c ∧ c ≤ mem 35 58 + 1) → (SR m2) → (FS mem m2) → (∀ x : Int, 0 ≤ x → x < mem 35 57 → m2 70 x = rs x) → (TRY m2 1 tl tc ta) → (SKST m2 (foldC FF c.toNat S)) → (SB (foldC FF c.toNat S)) →  (mem 35 58 + 1 - c).toNat < fu_44 → J z g 8 0 0 (QM z g 0 0 (pMV (fun mem' => SR mem' ∧ (FS mem mem' ∧ (∀ x : Int, 0 ≤ x → x < mem 35 57 → mem' 70 x = mem 70 x) ∧ TRY mem' 1 tl tc ta ∧ SKST mem' (seekF (mem 35 57) (mem 35 58) (mem 35 59) 3 rs i tl tc ta S))) kd ln sz)) 158 [(0, (2, 35)), (1, (0, i)), (2, (0, used)), (3, (0, k)), (4, (1, mem 70 k)), (6, (0, c))] [] kd ln m2 sz := by
                intro fu_44
                induction fu_44 with
                | zero => intro c m2 _ _ _ _ _ _ _ hm; omega
                | succ fu_44 ih_42 =>
                  intro c m2 hc hR_m2 hfs2 hz70b htr2 hst2 hsb2 hm2
                  have f57 : m2 35 57 = mem 35 57 := hfs2 35 57 (by decide) (by decide) (by decide) (by decide) (by decide) (by decide) (by decide) (by decide)
                  have f58 : m2 35 58 = mem 35 58 := hfs2 35 58 (by decide) (by decide) (by decide) (by decide) (by decide) (by decide) (by decide) (by decide)
                  have f59 : m2 35 59 = mem 35 59 := hfs2 35 59 (by decide) (by decide) (by decide) (by decide) (by decide) (by decide) (by decide) (by decide)
                  refine jblk hF [(.iload 6, 2), (.aload_n 0, 1)] (by decide +kernel) (pc' := 161) (lo' := [(0, (2, 35)), (1, (0, i)), (2, (0, used)), (3, (0, k)), (4, (1, mem 70 k)), (6, (0, c))]) (st' := [(2, 35), (0, c)]) rfl ?_
                  refine jget hF 13 58 0 58 rfl (by decide) (by decide) rfl wd_1521 (by decide +kernel) (by exact hS.k35) ?_
                  refine jicmp_gt hF (off := 107) 271 (by decide +kernel) (by decide) (by omega) (by omega) (fun h_45 => ?_) (fun h_45 => ?_)
                  · refine jvret hF hr (by decide +kernel) ?_
                    exact lMV ⟨hR_m2, by exact ⟨hfs2, fun x h1 h2 => by rw [hz70b x h1 h2, hrs x h1 h2], htr2, by rw [show (3 : Nat) = 2 + 1 from rfl, seekL (u := 1) (by decide) hske (by omega), ← hFF, show (mem 35 58 + 1).toNat = c.toNat by omega]; exact hst2⟩⟩
                  · refine jblk hF [(.iload 6, 2), (.aload_n 0, 1)] (by decide +kernel) (pc' := 170) (lo' := [(0, (2, 35)), (1, (0, i)), (2, (0, used)), (3, (0, k)), (4, (1, mem 70 k)), (6, (0, c))]) (st' := [(2, 35), (0, c)]) rfl ?_
                    refine jget hF 13 58 0 58 rfl (by decide) (by decide) rfl wd_1521 (by decide +kernel) (by exact hS.k35) ?_
                    refine jicmp_ne hF (off := 12) 185 (by decide +kernel) (by decide) (by omega) (by omega) (fun h_46 => ?_) (fun h_46 => ?_)
                    · refine jblk hF [(.aload_n 0, 1)] (by decide +kernel) (pc' := 186) (lo' := [(0, (2, 35)), (1, (0, i)), (2, (0, used)), (3, (0, k)), (4, (1, mem 70 k)), (6, (0, c))]) (st' := [(2, 35)]) rfl ?_
                      refine jget hF 13 58 0 58 rfl (by decide) (by decide) rfl wd_1521 (by decide +kernel) (by exact hS.k35) ?_
                      refine jblk hF [(.iload 6, 2), (.isub, 1), (.istore 7, 2)] (by decide +kernel) (pc' := 194) (lo' := [(7, (0, (m2 35 58) - c)), (0, (2, 35)), (1, (0, i)), (2, (0, used)), (3, (0, k)), (4, (1, mem 70 k)), (6, (0, c))]) (st' := []) rfl ?_
                      have hT : ((m2 35 58) - c) = tmC (mem 35 58) c := by unfold tmC; first | (rw [if_pos (by omega)]; omega) | (rw [if_neg (by omega)]; omega)
                      have hT5 : 0 ≤ tmC (mem 35 58) c ∧ tmC (mem 35 58) c ≤ 5 := by omega
                      refine jblk hF [(.aload_n 0, 1), (.iload_n 3, 1), (.iload 7, 2), (.lload 4, 2), (.lneg, 1)] (by decide +kernel) (pc' := 201) (lo' := [(7, (0, (m2 35 58) - c)), (0, (2, 35)), (1, (0, i)), (2, (0, used)), (3, (0, k)), (4, (1, mem 70 k)), (6, (0, c))]) (st' := [(1, -(mem 70 k)), (0, (m2 35 58) - c), (0, k), (2, 35)]) rfl ?_
                      refine jcallV hF (c_X12_mark hG hS hR_m2 k ((m2 35 58) - c) (-(mem 70 k)) (by omega) (by omega) (by first | omega | (rw [e57]; omega))) MW_X12_mark 13 (by decide) (by exact hS.k35) wd_2121 wd_2123 wd_p97 (by decide +kernel) [] rfl rfl (by decide) (Nat.le_of_ble_eq_true rfl) (by decide) (kMV (fun m_47 h_48 => ?_))
                      obtain ⟨hR_m_47, h_48⟩ := h_48
                      have hb9 := h_48.1
                      have hx9 := h_48.2
                      have j58 := hb9 35 58 (by decide)
                      have j59 := hb9 35 59 (by decide)
                      refine jblk hF [(.aload_n 0, 1)] (by decide +kernel) (pc' := 205) (lo' := [(7, (0, (m2 35 58) - c)), (0, (2, 35)), (1, (0, i)), (2, (0, used)), (3, (0, k)), (4, (1, mem 70 k)), (6, (0, c))]) (st' := [(2, 35)]) rfl ?_
                      refine jget hF 13 49 2 49 rfl (by decide) (by decide) rfl wd_1512 (by decide +kernel) (by exact hS.k35) ?_
                      rw [SR.r49 hR_m_47]
                      refine jblk hF [(.iload_n 2, 1), (.aload_n 0, 1)] (by decide +kernel) (pc' := 210) (lo' := [(7, (0, (m2 35 58) - c)), (0, (2, 35)), (1, (0, i)), (2, (0, used)), (3, (0, k)), (4, (1, mem 70 k)), (6, (0, c))]) (st' := [(2, 35), (0, used), (2, 71)]) rfl ?_
                      refine jget hF 13 59 0 59 rfl (by decide) (by decide) rfl wd_1522 (by decide +kernel) (by exact hS.k35) ?_
                      refine jblk hF [(.iload_n 3, 1), (.iadd, 1)] (by decide +kernel) (pc' := 215) (lo' := [(7, (0, (m2 35 58) - c)), (0, (2, 35)), (1, (0, i)), (2, (0, used)), (3, (0, k)), (4, (1, mem 70 k)), (6, (0, c))]) (st' := [(0, (m_47 35 59) + k), (0, used), (2, 71)]) rfl ?_
                      refine jiast hF (by decide +kernel) (by decide) (by exact hS.k71) (by omega) (by have := hS.l71; omega) ?_
                      refine jblk hF [(.aload_n 0, 1)] (by decide +kernel) (pc' := 217) (lo' := [(7, (0, (m2 35 58) - c)), (0, (2, 35)), (1, (0, i)), (2, (0, used)), (3, (0, k)), (4, (1, mem 70 k)), (6, (0, c))]) (st' := [(2, 35)]) rfl ?_
                      refine jget hF 13 50 2 50 rfl (by decide) (by decide) rfl wd_1513 (by decide +kernel) (by exact hS.k35) ?_
                      rw [SR.r50 (SR.s hR_m_47 (Or.inl (by decide)))]
                      refine jblk hF [(.iload_n 2, 1), (.iload 6, 2), (.aload_n 0, 1)] (by decide +kernel) (pc' := 224) (lo' := [(7, (0, (m2 35 58) - c)), (0, (2, 35)), (1, (0, i)), (2, (0, used)), (3, (0, k)), (4, (1, mem 70 k)), (6, (0, c))]) (st' := [(2, 35), (0, c), (0, used), (2, 72)]) rfl ?_
                      refine jget hF 13 58 0 58 rfl (by decide) (by decide) rfl wd_1521 (by decide +kernel) (by exact hS.k35) ?_
                      rw [show (set2 m_47 71 used ((m_47 35 59) + k)) 35 58 = m_47 35 58 from (s2_a (by decide))]
                      refine jicmp_ne hF (off := 8) 235 (by decide +kernel) (by decide) (by omega) (by omega) (fun _ => ?_) (fun h => absurd h (by omega))
                      refine jblk hF [(.iload 6, 2)] (by decide +kernel) (pc' := 237) (lo' := [(7, (0, (m2 35 58) - c)), (0, (2, 35)), (1, (0, i)), (2, (0, used)), (3, (0, k)), (4, (1, mem 70 k)), (6, (0, c))]) (st' := [(0, c), (0, used), (2, 72)]) rfl ?_
                      have hCo : c = coC (mem 35 58) c := by unfold coC; first | exact (if_pos (by omega)).symm | exact (if_neg (by omega)).symm
                      refine jiast hF (by decide +kernel) (by decide) (by exact hS.k72) (by omega) (by have := hS.l72; omega) ?_
                      refine jblk hF [(.aload_n 0, 1)] (by decide +kernel) (pc' := 239) (lo' := [(7, (0, (m2 35 58) - c)), (0, (2, 35)), (1, (0, i)), (2, (0, used)), (3, (0, k)), (4, (1, mem 70 k)), (6, (0, c))]) (st' := [(2, 35)]) rfl ?_
                      refine jget hF 13 51 2 51 rfl (by decide) (by decide) rfl wd_1514 (by decide +kernel) (by exact hS.k35) ?_
                      rw [SR.r51 (SR.s (SR.s hR_m_47 (Or.inl (by decide))) (Or.inl (by decide)))]
                      refine jblk hF [(.iload_n 2, 1), (.lload 4, 2)] (by decide +kernel) (pc' := 245) (lo' := [(7, (0, (m2 35 58) - c)), (0, (2, 35)), (1, (0, i)), (2, (0, used)), (3, (0, k)), (4, (1, mem 70 k)), (6, (0, c))]) (st' := [(1, mem 70 k), (0, used), (2, 73)]) rfl ?_
                      refine jlast hF (by decide +kernel) (by decide) (by exact hS.k73) (by omega) (by have := hS.l73; omega) ?_
                      have hfs9 : FS mem (set2 (set2 (set2 m_47 71 used ((m_47 35 59) + k)) 72 used c) 73 used (mem 70 k)) := ((hfs2.tr (FS.of70 hb9)).tr (FS.s _ _ (by decide))).tr ((FS.s _ _ (by decide)).tr (FS.s _ _ (by decide)))
                      have g57 : (set2 (set2 (set2 m_47 71 used ((m_47 35 59) + k)) 72 used c) 73 used (mem 70 k)) 35 57 = mem 35 57 := hfs9 35 57 (by decide) (by decide) (by decide) (by decide) (by decide) (by decide) (by decide) (by decide)
                      have g58 : (set2 (set2 (set2 m_47 71 used ((m_47 35 59) + k)) 72 used c) 73 used (mem 70 k)) 35 58 = mem 35 58 := hfs9 35 58 (by decide) (by decide) (by decide) (by decide) (by decide) (by decide) (by decide) (by decide)
                      have g59 : (set2 (set2 (set2 m_47 71 used ((m_47 35 59) + k)) 72 used c) 73 used (mem 70 k)) 35 59 = mem 35 59 := hfs9 35 59 (by decide) (by decide) (by decide) (by decide) (by decide) (by decide) (by decide) (by decide)
                      have hrs9 : ∀ x : Int, 0 ≤ x → x < mem 35 57 → (set2 (set2 (set2 m_47 71 used ((m_47 35 59) + k)) 72 used c) 73 used (mem 70 k)) 70 x = markJ (mem 35 57) rs k (tmC (mem 35 58) c) (-(rs k)) (tmC (mem 35 58) c + 1) x := fun x h1 h2 => by rw [s2_a (by decide), s2_a (by decide), s2_a (by decide), hx9 x, hT, f57, hrk2]; exact markJ_congr hz70b x h1 h2
                      have htr9 : TRY (set2 (set2 (set2 m_47 71 used ((m_47 35 59) + k)) 72 used c) 73 used (mem 70 k)) 2 (upI tl 1 (mem 35 59 + k)) (upI tc 1 (coC (mem 35 58) c)) (upI ta 1 (rs k)) := by rw [hu]; exact try_up (htr2.of ⟨funext fun j => hb9 71 j (by decide), funext fun j => hb9 72 j (by decide), funext fun j => hb9 73 j (by decide)⟩) (by omega) hCo hrk2
                      have hst9 : SKST (set2 (set2 (set2 m_47 71 used ((m_47 35 59) + k)) 72 used c) 73 used (mem 70 k)) (foldC FF c.toNat S) := hst2.of (fun a j q1 q2 q3 q4 => by rw [s2_a q4, s2_a q3, s2_a q2, hb9 a j q1])
                      refine jblk hF [(.aload_n 0, 1), (.iload_n 3, 1), (.iconst 1, 1), (.iadd, 1), (.iload_n 2, 1), (.iconst 1, 1), (.iadd, 1)] (by decide +kernel) (pc' := 253) (lo' := [(7, (0, (m2 35 58) - c)), (0, (2, 35)), (1, (0, i)), (2, (0, used)), (3, (0, k)), (4, (1, mem 70 k)), (6, (0, c))]) (st' := [(0, used + 1), (0, k + 1), (2, 35)]) rfl ?_
                      refine jcallV hF (c_seek2 hG hS (SR.s (SR.s (SR.s hR_m_47 (Or.inl (by decide))) (Or.inl (by decide))) (Or.inl (by decide))) (k + 1) (used + 1) (by exact (markJ (mem 35 57) rs k (tmC (mem 35 58) c) (-(rs k)) (tmC (mem 35 58) c + 1))) (by exact (upI tl 1 (mem 35 59 + k))) (by exact (upI tc 1 (coC (mem 35 58) c))) (by exact (upI ta 1 (rs k))) (by exact (foldC FF c.toNat S)) (by omega) (by first | omega | (rw [g57]; omega) | (rw [g58]; omega) | (rw [g59]; omega)) (by first | omega | (rw [g57]; omega) | (rw [g58]; omega) | (rw [g59]; omega)) (by first | omega | (rw [g57]; omega) | (rw [g58]; omega) | (rw [g59]; omega)) (by first | omega | (rw [g57]; omega) | (rw [g58]; omega) | (rw [g59]; omega)) (by rw [g57]; exact hrs9) (by exact htr9) (by exact hst9) (by exact hsb2)) MW_X12_seek 13 (by decide) (by exact hS.k35) wd_2117 wd_2119 wd_p96 (by decide +kernel) [] rfl rfl (by decide) (Nat.le_of_ble_eq_true rfl) (by decide) (kMV (fun m_50 h_51 => ?_))
                      obtain ⟨hR_m_50, h_51⟩ := h_51
                      obtain ⟨hfs8, hz8, htr8, hst8⟩ := h_51
                      rw [g57] at hz8
                      rw [g57, g58, g59] at hst8
                      have i57 : m_50 35 57 = mem 35 57 := (hfs9.tr hfs8) 35 57 (by decide) (by decide) (by decide) (by decide) (by decide) (by decide) (by decide) (by decide)
                      refine jblk hF [(.aload_n 0, 1), (.iload_n 3, 1), (.iload 7, 2), (.lload 4, 2)] (by decide +kernel) (pc' := 262) (lo' := [(7, (0, (m2 35 58) - c)), (0, (2, 35)), (1, (0, i)), (2, (0, used)), (3, (0, k)), (4, (1, mem 70 k)), (6, (0, c))]) (st' := [(1, mem 70 k), (0, (m2 35 58) - c), (0, k), (2, 35)]) rfl ?_
                      refine jcallV hF (c_X12_mark hG hS hR_m_50 k ((m2 35 58) - c) (mem 70 k) (by omega) (by omega) (by first | omega | (rw [e57]; omega))) MW_X12_mark 13 (by decide) (by exact hS.k35) wd_2121 wd_2123 wd_p97 (by decide +kernel) [] rfl rfl (by decide) (Nat.le_of_ble_eq_true rfl) (by decide) (kMV (fun m_52 h_53 => ?_))
                      obtain ⟨hR_m_52, h_53⟩ := h_53
                      have hfs3 : FS mem m_52 := (hfs9.tr hfs8).tr (FS.of70 h_53.1)
                      have hz3 : ∀ x : Int, 0 ≤ x → x < mem 35 57 → m_52 70 x = rs x := fun x h1 h2 => by rw [h_53.2 x, hT, i57, hrk2, markJ_congr (fun y h1 h2 => (hz8 y h1 h2).trans (hrs9 y h1 h2)) x h1 h2]; exact markJ_back x
                      have htr3 : TRY m_52 1 tl tc ta := (try_dn (u := 1) htr8).of ⟨funext fun j => h_53.1 71 j (by decide), funext fun j => h_53.1 72 j (by decide), funext fun j => h_53.1 73 j (by decide)⟩
                      have hst3 : SKST m_52 (FF c (foldC FF c.toNat S)) := by rw [hFFa]; exact hst8.of (fun a j q1 _ _ _ => h_53.1 a j q1)
                      refine jblk hF [(.iinc 6 1, 3)] (by decide +kernel) (pc' := 268) (lo' := [(6, (0, c + 1)), (7, (0, (m2 35 58) - c)), (0, (2, 35)), (1, (0, i)), (2, (0, used)), (3, (0, k)), (4, (1, mem 70 k))]) (st' := []) rfl ?_
                      refine jgoto hF (off := (-110)) 158 (by decide +kernel) (by decide) ?_
                      refine jsub [2, 3, 4, 5, 6, 0] rfl ?_
                      refine ih_42 (c + 1) m_52 ?_ ?_ ?_ ?_ ?_ ?_ ?_ ?_
                      · omega
                      · assumption
                      · exact hfs3
                      · exact hz3
                      · exact htr3
                      · rw [foldC_s (by omega)]; exact hst3
                      · rw [foldC_s (by omega), hFFa]; exact hSBF _ _ _ _ _ _ hsb2
                      · omega
                    · refine jblk hF [(.aload_n 0, 1)] (by decide +kernel) (pc' := 177) (lo' := [(0, (2, 35)), (1, (0, i)), (2, (0, used)), (3, (0, k)), (4, (1, mem 70 k)), (6, (0, c))]) (st' := [(2, 35)]) rfl ?_
                      refine jget hF 13 58 0 58 rfl (by decide) (by decide) rfl wd_1521 (by decide +kernel) (by exact hS.k35) ?_
                      refine jblk hF [(.iconst 1, 1), (.iadd, 1)] (by decide +kernel) (pc' := 182) (lo' := [(0, (2, 35)), (1, (0, i)), (2, (0, used)), (3, (0, k)), (4, (1, mem 70 k)), (6, (0, c))]) (st' := [(0, (m2 35 58) + 1)]) rfl ?_
                      refine jgoto hF (off := 10) 192 (by decide +kernel) (by decide) ?_
                      refine jblk hF [(.istore 7, 2)] (by decide +kernel) (pc' := 194) (lo' := [(7, (0, (m2 35 58) + 1)), (0, (2, 35)), (1, (0, i)), (2, (0, used)), (3, (0, k)), (4, (1, mem 70 k)), (6, (0, c))]) (st' := []) rfl ?_
                      have hT : ((m2 35 58) + 1) = tmC (mem 35 58) c := by unfold tmC; first | (rw [if_pos (by omega)]; omega) | (rw [if_neg (by omega)]; omega)
                      have hT5 : 0 ≤ tmC (mem 35 58) c ∧ tmC (mem 35 58) c ≤ 5 := by omega
                      refine jblk hF [(.aload_n 0, 1), (.iload_n 3, 1), (.iload 7, 2), (.lload 4, 2), (.lneg, 1)] (by decide +kernel) (pc' := 201) (lo' := [(7, (0, (m2 35 58) + 1)), (0, (2, 35)), (1, (0, i)), (2, (0, used)), (3, (0, k)), (4, (1, mem 70 k)), (6, (0, c))]) (st' := [(1, -(mem 70 k)), (0, (m2 35 58) + 1), (0, k), (2, 35)]) rfl ?_
                      refine jcallV hF (c_X12_mark hG hS hR_m2 k ((m2 35 58) + 1) (-(mem 70 k)) (by omega) (by omega) (by first | omega | (rw [e57]; omega))) MW_X12_mark 13 (by decide) (by exact hS.k35) wd_2121 wd_2123 wd_p97 (by decide +kernel) [] rfl rfl (by decide) (Nat.le_of_ble_eq_true rfl) (by decide) (kMV (fun m_54 h_55 => ?_))
                      obtain ⟨hR_m_54, h_55⟩ := h_55
                      have hb9 := h_55.1
                      have hx9 := h_55.2
                      have j58 := hb9 35 58 (by decide)
                      have j59 := hb9 35 59 (by decide)
                      refine jblk hF [(.aload_n 0, 1)] (by decide +kernel) (pc' := 205) (lo' := [(7, (0, (m2 35 58) + 1)), (0, (2, 35)), (1, (0, i)), (2, (0, used)), (3, (0, k)), (4, (1, mem 70 k)), (6, (0, c))]) (st' := [(2, 35)]) rfl ?_
                      refine jget hF 13 49 2 49 rfl (by decide) (by decide) rfl wd_1512 (by decide +kernel) (by exact hS.k35) ?_
                      rw [SR.r49 hR_m_54]
                      refine jblk hF [(.iload_n 2, 1), (.aload_n 0, 1)] (by decide +kernel) (pc' := 210) (lo' := [(7, (0, (m2 35 58) + 1)), (0, (2, 35)), (1, (0, i)), (2, (0, used)), (3, (0, k)), (4, (1, mem 70 k)), (6, (0, c))]) (st' := [(2, 35), (0, used), (2, 71)]) rfl ?_
                      refine jget hF 13 59 0 59 rfl (by decide) (by decide) rfl wd_1522 (by decide +kernel) (by exact hS.k35) ?_
                      refine jblk hF [(.iload_n 3, 1), (.iadd, 1)] (by decide +kernel) (pc' := 215) (lo' := [(7, (0, (m2 35 58) + 1)), (0, (2, 35)), (1, (0, i)), (2, (0, used)), (3, (0, k)), (4, (1, mem 70 k)), (6, (0, c))]) (st' := [(0, (m_54 35 59) + k), (0, used), (2, 71)]) rfl ?_
                      refine jiast hF (by decide +kernel) (by decide) (by exact hS.k71) (by omega) (by have := hS.l71; omega) ?_
                      refine jblk hF [(.aload_n 0, 1)] (by decide +kernel) (pc' := 217) (lo' := [(7, (0, (m2 35 58) + 1)), (0, (2, 35)), (1, (0, i)), (2, (0, used)), (3, (0, k)), (4, (1, mem 70 k)), (6, (0, c))]) (st' := [(2, 35)]) rfl ?_
                      refine jget hF 13 50 2 50 rfl (by decide) (by decide) rfl wd_1513 (by decide +kernel) (by exact hS.k35) ?_
                      rw [SR.r50 (SR.s hR_m_54 (Or.inl (by decide)))]
                      refine jblk hF [(.iload_n 2, 1), (.iload 6, 2), (.aload_n 0, 1)] (by decide +kernel) (pc' := 224) (lo' := [(7, (0, (m2 35 58) + 1)), (0, (2, 35)), (1, (0, i)), (2, (0, used)), (3, (0, k)), (4, (1, mem 70 k)), (6, (0, c))]) (st' := [(2, 35), (0, c), (0, used), (2, 72)]) rfl ?_
                      refine jget hF 13 58 0 58 rfl (by decide) (by decide) rfl wd_1521 (by decide +kernel) (by exact hS.k35) ?_
                      rw [show (set2 m_54 71 used ((m_54 35 59) + k)) 35 58 = m_54 35 58 from (s2_a (by decide))]
                      refine jicmp_ne hF (off := 8) 235 (by decide +kernel) (by decide) (by omega) (by omega) (fun h => absurd h (by omega)) (fun _ => ?_)
                      refine jblk hF [(.bipush 9, 2)] (by decide +kernel) (pc' := 232) (lo' := [(7, (0, (m2 35 58) + 1)), (0, (2, 35)), (1, (0, i)), (2, (0, used)), (3, (0, k)), (4, (1, mem 70 k)), (6, (0, c))]) (st' := [(0, 9), (0, used), (2, 72)]) rfl ?_
                      refine jgoto hF (off := 5) 237 (by decide +kernel) (by decide) ?_
                      have hCo : 9 = coC (mem 35 58) c := by unfold coC; first | exact (if_pos (by omega)).symm | exact (if_neg (by omega)).symm
                      refine jiast hF (by decide +kernel) (by decide) (by exact hS.k72) (by omega) (by have := hS.l72; omega) ?_
                      refine jblk hF [(.aload_n 0, 1)] (by decide +kernel) (pc' := 239) (lo' := [(7, (0, (m2 35 58) + 1)), (0, (2, 35)), (1, (0, i)), (2, (0, used)), (3, (0, k)), (4, (1, mem 70 k)), (6, (0, c))]) (st' := [(2, 35)]) rfl ?_
                      refine jget hF 13 51 2 51 rfl (by decide) (by decide) rfl wd_1514 (by decide +kernel) (by exact hS.k35) ?_
                      rw [SR.r51 (SR.s (SR.s hR_m_54 (Or.inl (by decide))) (Or.inl (by decide)))]
                      refine jblk hF [(.iload_n 2, 1), (.lload 4, 2)] (by decide +kernel) (pc' := 245) (lo' := [(7, (0, (m2 35 58) + 1)), (0, (2, 35)), (1, (0, i)), (2, (0, used)), (3, (0, k)), (4, (1, mem 70 k)), (6, (0, c))]) (st' := [(1, mem 70 k), (0, used), (2, 73)]) rfl ?_
                      refine jlast hF (by decide +kernel) (by decide) (by exact hS.k73) (by omega) (by have := hS.l73; omega) ?_
                      have hfs9 : FS mem (set2 (set2 (set2 m_54 71 used ((m_54 35 59) + k)) 72 used 9) 73 used (mem 70 k)) := ((hfs2.tr (FS.of70 hb9)).tr (FS.s _ _ (by decide))).tr ((FS.s _ _ (by decide)).tr (FS.s _ _ (by decide)))
                      have g57 : (set2 (set2 (set2 m_54 71 used ((m_54 35 59) + k)) 72 used 9) 73 used (mem 70 k)) 35 57 = mem 35 57 := hfs9 35 57 (by decide) (by decide) (by decide) (by decide) (by decide) (by decide) (by decide) (by decide)
                      have g58 : (set2 (set2 (set2 m_54 71 used ((m_54 35 59) + k)) 72 used 9) 73 used (mem 70 k)) 35 58 = mem 35 58 := hfs9 35 58 (by decide) (by decide) (by decide) (by decide) (by decide) (by decide) (by decide) (by decide)
                      have g59 : (set2 (set2 (set2 m_54 71 used ((m_54 35 59) + k)) 72 used 9) 73 used (mem 70 k)) 35 59 = mem 35 59 := hfs9 35 59 (by decide) (by decide) (by decide) (by decide) (by decide) (by decide) (by decide) (by decide)
                      have hrs9 : ∀ x : Int, 0 ≤ x → x < mem 35 57 → (set2 (set2 (set2 m_54 71 used ((m_54 35 59) + k)) 72 used 9) 73 used (mem 70 k)) 70 x = markJ (mem 35 57) rs k (tmC (mem 35 58) c) (-(rs k)) (tmC (mem 35 58) c + 1) x := fun x h1 h2 => by rw [s2_a (by decide), s2_a (by decide), s2_a (by decide), hx9 x, hT, f57, hrk2]; exact markJ_congr hz70b x h1 h2
                      have htr9 : TRY (set2 (set2 (set2 m_54 71 used ((m_54 35 59) + k)) 72 used 9) 73 used (mem 70 k)) 2 (upI tl 1 (mem 35 59 + k)) (upI tc 1 (coC (mem 35 58) c)) (upI ta 1 (rs k)) := by rw [hu]; exact try_up (htr2.of ⟨funext fun j => hb9 71 j (by decide), funext fun j => hb9 72 j (by decide), funext fun j => hb9 73 j (by decide)⟩) (by omega) hCo hrk2
                      have hst9 : SKST (set2 (set2 (set2 m_54 71 used ((m_54 35 59) + k)) 72 used 9) 73 used (mem 70 k)) (foldC FF c.toNat S) := hst2.of (fun a j q1 q2 q3 q4 => by rw [s2_a q4, s2_a q3, s2_a q2, hb9 a j q1])
                      refine jblk hF [(.aload_n 0, 1), (.iload_n 3, 1), (.iconst 1, 1), (.iadd, 1), (.iload_n 2, 1), (.iconst 1, 1), (.iadd, 1)] (by decide +kernel) (pc' := 253) (lo' := [(7, (0, (m2 35 58) + 1)), (0, (2, 35)), (1, (0, i)), (2, (0, used)), (3, (0, k)), (4, (1, mem 70 k)), (6, (0, c))]) (st' := [(0, used + 1), (0, k + 1), (2, 35)]) rfl ?_
                      refine jcallV hF (c_seek2 hG hS (SR.s (SR.s (SR.s hR_m_54 (Or.inl (by decide))) (Or.inl (by decide))) (Or.inl (by decide))) (k + 1) (used + 1) (by exact (markJ (mem 35 57) rs k (tmC (mem 35 58) c) (-(rs k)) (tmC (mem 35 58) c + 1))) (by exact (upI tl 1 (mem 35 59 + k))) (by exact (upI tc 1 (coC (mem 35 58) c))) (by exact (upI ta 1 (rs k))) (by exact (foldC FF c.toNat S)) (by omega) (by first | omega | (rw [g57]; omega) | (rw [g58]; omega) | (rw [g59]; omega)) (by first | omega | (rw [g57]; omega) | (rw [g58]; omega) | (rw [g59]; omega)) (by first | omega | (rw [g57]; omega) | (rw [g58]; omega) | (rw [g59]; omega)) (by first | omega | (rw [g57]; omega) | (rw [g58]; omega) | (rw [g59]; omega)) (by rw [g57]; exact hrs9) (by exact htr9) (by exact hst9) (by exact hsb2)) MW_X12_seek 13 (by decide) (by exact hS.k35) wd_2117 wd_2119 wd_p96 (by decide +kernel) [] rfl rfl (by decide) (Nat.le_of_ble_eq_true rfl) (by decide) (kMV (fun m_57 h_58 => ?_))
                      obtain ⟨hR_m_57, h_58⟩ := h_58
                      obtain ⟨hfs8, hz8, htr8, hst8⟩ := h_58
                      rw [g57] at hz8
                      rw [g57, g58, g59] at hst8
                      have i57 : m_57 35 57 = mem 35 57 := (hfs9.tr hfs8) 35 57 (by decide) (by decide) (by decide) (by decide) (by decide) (by decide) (by decide) (by decide)
                      refine jblk hF [(.aload_n 0, 1), (.iload_n 3, 1), (.iload 7, 2), (.lload 4, 2)] (by decide +kernel) (pc' := 262) (lo' := [(7, (0, (m2 35 58) + 1)), (0, (2, 35)), (1, (0, i)), (2, (0, used)), (3, (0, k)), (4, (1, mem 70 k)), (6, (0, c))]) (st' := [(1, mem 70 k), (0, (m2 35 58) + 1), (0, k), (2, 35)]) rfl ?_
                      refine jcallV hF (c_X12_mark hG hS hR_m_57 k ((m2 35 58) + 1) (mem 70 k) (by omega) (by omega) (by first | omega | (rw [e57]; omega))) MW_X12_mark 13 (by decide) (by exact hS.k35) wd_2121 wd_2123 wd_p97 (by decide +kernel) [] rfl rfl (by decide) (Nat.le_of_ble_eq_true rfl) (by decide) (kMV (fun m_59 h_60 => ?_))
                      obtain ⟨hR_m_59, h_60⟩ := h_60
                      have hfs3 : FS mem m_59 := (hfs9.tr hfs8).tr (FS.of70 h_60.1)
                      have hz3 : ∀ x : Int, 0 ≤ x → x < mem 35 57 → m_59 70 x = rs x := fun x h1 h2 => by rw [h_60.2 x, hT, i57, hrk2, markJ_congr (fun y h1 h2 => (hz8 y h1 h2).trans (hrs9 y h1 h2)) x h1 h2]; exact markJ_back x
                      have htr3 : TRY m_59 1 tl tc ta := (try_dn (u := 1) htr8).of ⟨funext fun j => h_60.1 71 j (by decide), funext fun j => h_60.1 72 j (by decide), funext fun j => h_60.1 73 j (by decide)⟩
                      have hst3 : SKST m_59 (FF c (foldC FF c.toNat S)) := by rw [hFFa]; exact hst8.of (fun a j q1 _ _ _ => h_60.1 a j q1)
                      refine jblk hF [(.iinc 6 1, 3)] (by decide +kernel) (pc' := 268) (lo' := [(6, (0, c + 1)), (7, (0, (m2 35 58) + 1)), (0, (2, 35)), (1, (0, i)), (2, (0, used)), (3, (0, k)), (4, (1, mem 70 k))]) (st' := []) rfl ?_
                      refine jgoto hF (off := (-110)) 158 (by decide +kernel) (by decide) ?_
                      refine jsub [2, 3, 4, 5, 6, 0] rfl ?_
                      refine ih_42 (c + 1) m_59 ?_ ?_ ?_ ?_ ?_ ?_ ?_ ?_
                      · omega
                      · assumption
                      · exact hfs3
                      · exact hz3
                      · exact htr3
                      · rw [foldC_s (by omega)]; exact hst3
                      · rw [foldC_s (by omega), hFFa]; exact hSBF _ _ _ _ _ _ hsb2
                      · omega
              refine jsub [2, 3, 4, 5, 1, 0] rfl ?_
              refine L_43 _ 0 mem ?_ ?_ ?_ ?_ ?_ ?_ ?_ (Nat.lt_succ_self _)
              · omega
              · exact hR
              · exact FS.rf
              · exact hrs
              · exact htr
              · exact hst
              · exact hsb
            · refine jvret hF hr (by decide +kernel) ?_
              exact lMV ⟨hR, by exfalso; omega⟩
          · refine jblk hF [(.aload_n 0, 1)] (by decide +kernel) (pc' := 36) (lo' := [(0, (2, 35)), (1, (0, i)), (2, (0, used)), (3, (0, k))]) (st' := [(2, 35)]) rfl ?_
            refine jget hF 13 55 0 55 rfl (by decide) (by decide) rfl wd_1518 (by decide +kernel) (by exact hS.k35) ?_
            refine jblk hF [(.iconst (-1), 1)] (by decide +kernel) (pc' := 40) (lo' := [(0, (2, 35)), (1, (0, i)), (2, (0, used)), (3, (0, k))]) (st' := [(0, (-1)), (0, mem 35 55)]) rfl ?_
            refine jicmp_eq hF (off := 11) 51 (by decide +kernel) (by decide) (by omega) (by decide) (fun h_61 => ?_) (fun h_61 => ?_)
            · have hkN : k = mem 35 57 := by omega
              refine jblk hF [(.aload_n 0, 1), (.iload_n 2, 1)] (by decide +kernel) (pc' := 53) (lo' := [(0, (2, 35)), (1, (0, i)), (2, (0, used)), (3, (0, k))]) (st' := [(0, used), (2, 35)]) rfl ?_
              refine jput hF 13 55 0 55 rfl (by decide) (by decide) rfl wd_1518 (by decide +kernel) rfl (Or.inl rfl) (by exact hS.k35) (fun h => by cases h) ?_
              refine jblk hF [(.aload_n 0, 1), (.iconst 0, 1)] (by decide +kernel) (pc' := 58) (lo' := [(0, (2, 35)), (1, (0, i)), (2, (0, used)), (3, (0, k))]) (st' := [(0, 0), (2, 35)]) rfl ?_
              refine jput hF 13 56 0 56 rfl (by decide) (by decide) rfl wd_1519 (by decide +kernel) rfl (Or.inl rfl) (by exact hS.k35) (fun h => by cases h) ?_
              refine jblk hF [(.iconst 0, 1), (.istore 4, 2)] (by decide +kernel) (pc' := 64) (lo' := [(4, (0, 0)), (0, (2, 35)), (1, (0, i)), (2, (0, used)), (3, (0, k))]) (st' := []) rfl ?_
              have L_63 : ∀ (fu_64 : Nat) (j : Int) (m1 : Int → Int → Int), (0 ≤ j ∧ j ≤ 1) → (SR m1) → (FS mem m1) → (m1 70 = mem 70 ∧ m1 71 = mem 71 ∧ m1 72 = mem 72 ∧ m1 73 = mem 73) → (m1 35 55 = used ∧ m1 35 56 = 0) → (m1 74 = cpN j tl S.2.2.1 ∧ m1 75 = cpN j tc S.2.2.2.1 ∧ m1 76 = cpN j ta S.2.2.2.2) →  (4 - j).toNat < fu_64 → J z g 8 0 0 (QM z g 0 0 (pMV (fun mem' => SR mem' ∧ (FS mem mem' ∧ (∀ x : Int, 0 ≤ x → x < mem 35 57 → mem' 70 x = mem 70 x) ∧ TRY mem' 1 tl tc ta ∧ SKST mem' (seekF (mem 35 57) (mem 35 58) (mem 35 59) 3 rs i tl tc ta S))) kd ln sz)) 64 [(0, (2, 35)), (1, (0, i)), (2, (0, used)), (3, (0, k)), (4, (0, j))] [] kd ln m1 sz := by
                intro fu_64
                induction fu_64 with
                | zero => intro j m1 _ _ _ _ _ _ hm; omega
                | succ fu_64 ih_62 =>
                  intro j m1 hj hR_m1 hfs hz70 hz55 hz74 hm1
                  refine jblk hF [(.iload 4, 2), (.iload_n 2, 1)] (by decide +kernel) (pc' := 67) (lo' := [(0, (2, 35)), (1, (0, i)), (2, (0, used)), (3, (0, k)), (4, (0, j))]) (st' := [(0, used), (0, j)]) rfl ?_
                  refine jicmp_ge hF (off := 51) 118 (by decide +kernel) (by decide) (by omega) (by omega) (fun h_65 => ?_) (fun h_65 => ?_)
                  · refine jblk hF [(.aload_n 0, 1), (.dup, 1)] (by decide +kernel) (pc' := 120) (lo' := [(0, (2, 35)), (1, (0, i)), (2, (0, used)), (3, (0, k)), (4, (0, j))]) (st' := [(2, 35), (2, 35)]) rfl ?_
                    refine jget hF 13 56 0 56 rfl (by decide) (by decide) rfl wd_1519 (by decide +kernel) (by exact hS.k35) ?_
                    refine jblk hF [(.iload_n 2, 1), (.aload_n 0, 1)] (by decide +kernel) (pc' := 125) (lo' := [(0, (2, 35)), (1, (0, i)), (2, (0, used)), (3, (0, k)), (4, (0, j))]) (st' := [(2, 35), (0, used), (0, m1 35 56), (2, 35)]) rfl ?_
                    refine jget hF 13 55 0 55 rfl (by decide) (by decide) rfl wd_1518 (by decide +kernel) (by exact hS.k35) ?_
                    refine jicmp_ne hF (off := 7) 135 (by decide +kernel) (by decide) (by omega) (by omega) (fun h_66 => ?_) (fun h_66 => ?_)
                    · refine jblk hF [(.iconst 0, 1), (.iadd, 1)] (by decide +kernel) (pc' := 137) (lo' := [(0, (2, 35)), (1, (0, i)), (2, (0, used)), (3, (0, k)), (4, (0, j))]) (st' := [(0, (m1 35 56) + 0), (2, 35)]) rfl ?_
                      refine jput hF 13 56 0 56 rfl (by decide) (by decide) rfl wd_1519 (by decide +kernel) rfl (Or.inl rfl) (by exact hS.k35) (fun h => by cases h) ?_
                      refine jvret hF hr (by decide +kernel) ?_
                      exact lMV ⟨(SR.s hR_m1 (Or.inr (by decide))), by have hkN : k = mem 35 57 := (by omega); have hsT : skipN rs i (mem 35 57 - i).toNat = mem 35 57 := (by rw [hsk, hkN]; exact skip_n); rw [seekT (u := 1) (by decide) hsT]; first | exact ⟨hfs.tr (FS.p _ (by decide)), fun x _ _ => congrFun hz70.1 x, htr.of ⟨hz70.2.1, hz70.2.2.1, hz70.2.2.2⟩, fin_new (by omega) (by rw [hz55.1]; exact hu) (by rw [show (1 : Int) = j by omega]; exact hz74) (by omega)⟩ | exact ⟨FS.p _ (by decide), fun x _ _ => rfl, htr, fin_keep (by omega) hst (by first | (rw [if_pos (by omega)]; omega) | (rw [if_neg (by omega)]; omega))⟩ | (exfalso; omega)⟩
                    · refine jblk hF [(.iconst 1, 1)] (by decide +kernel) (pc' := 132) (lo' := [(0, (2, 35)), (1, (0, i)), (2, (0, used)), (3, (0, k)), (4, (0, j))]) (st' := [(0, 1), (0, m1 35 56), (2, 35)]) rfl ?_
                      refine jgoto hF (off := 4) 136 (by decide +kernel) (by decide) ?_
                      refine jblk hF [(.iadd, 1)] (by decide +kernel) (pc' := 137) (lo' := [(0, (2, 35)), (1, (0, i)), (2, (0, used)), (3, (0, k)), (4, (0, j))]) (st' := [(0, (m1 35 56) + 1), (2, 35)]) rfl ?_
                      refine jput hF 13 56 0 56 rfl (by decide) (by decide) rfl wd_1519 (by decide +kernel) rfl (Or.inl rfl) (by exact hS.k35) (fun h => by cases h) ?_
                      refine jvret hF hr (by decide +kernel) ?_
                      exact lMV ⟨(SR.s hR_m1 (Or.inr (by decide))), by have hkN : k = mem 35 57 := (by omega); have hsT : skipN rs i (mem 35 57 - i).toNat = mem 35 57 := (by rw [hsk, hkN]; exact skip_n); rw [seekT (u := 1) (by decide) hsT]; first | exact ⟨hfs.tr (FS.p _ (by decide)), fun x _ _ => congrFun hz70.1 x, htr.of ⟨hz70.2.1, hz70.2.2.1, hz70.2.2.2⟩, fin_new (by omega) (by rw [hz55.1]; exact hu) (by rw [show (1 : Int) = j by omega]; exact hz74) (by omega)⟩ | exact ⟨FS.p _ (by decide), fun x _ _ => rfl, htr, fin_keep (by omega) hst (by first | (rw [if_pos (by omega)]; omega) | (rw [if_neg (by omega)]; omega))⟩ | (exfalso; omega)⟩
                  · refine jblk hF [(.aload_n 0, 1)] (by decide +kernel) (pc' := 71) (lo' := [(0, (2, 35)), (1, (0, i)), (2, (0, used)), (3, (0, k)), (4, (0, j))]) (st' := [(2, 35)]) rfl ?_
                    refine jget hF 13 52 2 52 rfl (by decide) (by decide) rfl wd_1515 (by decide +kernel) (by exact hS.k35) ?_
                    rw [SR.r52 hR_m1]
                    refine jblk hF [(.iload 4, 2), (.aload_n 0, 1)] (by decide +kernel) (pc' := 77) (lo' := [(0, (2, 35)), (1, (0, i)), (2, (0, used)), (3, (0, k)), (4, (0, j))]) (st' := [(2, 35), (0, j), (2, 74)]) rfl ?_
                    refine jget hF 13 49 2 49 rfl (by decide) (by decide) rfl wd_1512 (by decide +kernel) (by exact hS.k35) ?_
                    rw [SR.r49 hR_m1]
                    refine jblk hF [(.iload 4, 2)] (by decide +kernel) (pc' := 82) (lo' := [(0, (2, 35)), (1, (0, i)), (2, (0, used)), (3, (0, k)), (4, (0, j))]) (st' := [(0, j), (2, 71), (0, j), (2, 74)]) rfl ?_
                    refine jiald hF (by decide +kernel) (by exact hS.k71) (by omega) (by have := hS.l71; omega) ?_
                    refine jiast hF (by decide +kernel) (by decide) (by exact hS.k74) (by omega) (by have := hS.l74; omega) ?_
                    refine jblk hF [(.aload_n 0, 1)] (by decide +kernel) (pc' := 85) (lo' := [(0, (2, 35)), (1, (0, i)), (2, (0, used)), (3, (0, k)), (4, (0, j))]) (st' := [(2, 35)]) rfl ?_
                    refine jget hF 13 53 2 53 rfl (by decide) (by decide) rfl wd_1516 (by decide +kernel) (by exact hS.k35) ?_
                    rw [SR.r53 (SR.s hR_m1 (Or.inl (by decide)))]
                    refine jblk hF [(.iload 4, 2), (.aload_n 0, 1)] (by decide +kernel) (pc' := 91) (lo' := [(0, (2, 35)), (1, (0, i)), (2, (0, used)), (3, (0, k)), (4, (0, j))]) (st' := [(2, 35), (0, j), (2, 75)]) rfl ?_
                    refine jget hF 13 50 2 50 rfl (by decide) (by decide) rfl wd_1513 (by decide +kernel) (by exact hS.k35) ?_
                    rw [SR.r50 (SR.s hR_m1 (Or.inl (by decide)))]
                    refine jblk hF [(.iload 4, 2)] (by decide +kernel) (pc' := 96) (lo' := [(0, (2, 35)), (1, (0, i)), (2, (0, used)), (3, (0, k)), (4, (0, j))]) (st' := [(0, j), (2, 72), (0, j), (2, 75)]) rfl ?_
                    refine jiald hF (by decide +kernel) (by exact hS.k72) (by omega) (by have := hS.l72; omega) ?_
                    rw [show (set2 m1 74 j (m1 71 j)) 72 j = m1 72 j from (s2_a (by decide))]
                    refine jiast hF (by decide +kernel) (by decide) (by exact hS.k75) (by omega) (by have := hS.l75; omega) ?_
                    refine jblk hF [(.aload_n 0, 1)] (by decide +kernel) (pc' := 99) (lo' := [(0, (2, 35)), (1, (0, i)), (2, (0, used)), (3, (0, k)), (4, (0, j))]) (st' := [(2, 35)]) rfl ?_
                    refine jget hF 13 54 2 54 rfl (by decide) (by decide) rfl wd_1517 (by decide +kernel) (by exact hS.k35) ?_
                    rw [SR.r54 (SR.s (SR.s hR_m1 (Or.inl (by decide))) (Or.inl (by decide)))]
                    refine jblk hF [(.iload 4, 2), (.aload_n 0, 1)] (by decide +kernel) (pc' := 105) (lo' := [(0, (2, 35)), (1, (0, i)), (2, (0, used)), (3, (0, k)), (4, (0, j))]) (st' := [(2, 35), (0, j), (2, 76)]) rfl ?_
                    refine jget hF 13 51 2 51 rfl (by decide) (by decide) rfl wd_1514 (by decide +kernel) (by exact hS.k35) ?_
                    rw [SR.r51 (SR.s (SR.s hR_m1 (Or.inl (by decide))) (Or.inl (by decide)))]
                    refine jblk hF [(.iload 4, 2)] (by decide +kernel) (pc' := 110) (lo' := [(0, (2, 35)), (1, (0, i)), (2, (0, used)), (3, (0, k)), (4, (0, j))]) (st' := [(0, j), (2, 73), (0, j), (2, 76)]) rfl ?_
                    refine jlald hF (by decide +kernel) (by exact hS.k73) (by omega) (by have := hS.l73; omega) ?_
                    rw [show (set2 (set2 m1 74 j (m1 71 j)) 75 j (m1 72 j)) 73 j = m1 73 j from ((s2_a (by decide)).trans (s2_a (by decide)))]
                    refine jlast hF (by decide +kernel) (by decide) (by exact hS.k76) (by omega) (by have := hS.l76; omega) ?_
                    refine jblk hF [(.iinc 4 1, 3)] (by decide +kernel) (pc' := 115) (lo' := [(4, (0, j + 1)), (0, (2, 35)), (1, (0, i)), (2, (0, used)), (3, (0, k))]) (st' := []) rfl ?_
                    refine jgoto hF (off := (-51)) 64 (by decide +kernel) (by decide) ?_
                    refine jsub [1, 2, 3, 4, 0] rfl ?_
                    refine ih_62 (j + 1) (set2 (set2 (set2 m1 74 j (m1 71 j)) 75 j (m1 72 j)) 76 j (m1 73 j)) ?_ ?_ ?_ ?_ ?_ ?_ ?_
                    · omega
                    · exact ((hR_m1.s (Or.inl (by decide))).s (Or.inl (by decide))).s (Or.inl (by decide))
                    · exact ((hfs.tr (FS.s _ _ (by decide))).tr (FS.s _ _ (by decide))).tr (FS.s _ _ (by decide))
                    · exact ⟨hz70.1, hz70.2.1, hz70.2.2.1, hz70.2.2.2⟩
                    · exact hz55
                    · have h9 := htr j (by omega) (by omega); exact cp3 (by omega) hz74 ⟨by rw [hz70.2.1]; exact h9.1, by rw [hz70.2.2.1]; exact h9.2.1, by rw [hz70.2.2.2]; exact h9.2.2⟩
                    · omega
              refine jsub [1, 2, 3, 4, 0] rfl ?_
              refine L_63 _ 0 (set2 (set2 mem 35 55 used) 35 56 0) ?_ ?_ ?_ ?_ ?_ ?_ (Nat.lt_succ_self _)
              · omega
              · exact (hR.s (Or.inr (by decide))).s (Or.inr (by decide))
              · exact (FS.p _ (by decide)).tr (FS.p _ (by decide))
              · exact ⟨rfl, rfl, rfl, rfl⟩
              · exact ⟨by rw [s2_k (by decide), s2_s], by rw [s2_s]⟩
              · exact ⟨cpN_0 hst.2.2.1, cpN_0 hst.2.2.2.1, cpN_0 hst.2.2.2.2⟩
            · refine jblk hF [(.iload_n 2, 1), (.aload_n 0, 1)] (by decide +kernel) (pc' := 45) (lo' := [(0, (2, 35)), (1, (0, i)), (2, (0, used)), (3, (0, k))]) (st' := [(2, 35), (0, used)]) rfl ?_
              refine jget hF 13 55 0 55 rfl (by decide) (by decide) rfl wd_1518 (by decide +kernel) (by exact hS.k35) ?_
              refine jicmp_ge hF (off := 70) 118 (by decide +kernel) (by decide) (by omega) (by omega) (fun h_67 => ?_) (fun h_67 => ?_)
              · refine jblk hF [(.aload_n 0, 1), (.dup, 1)] (by decide +kernel) (pc' := 120) (lo' := [(0, (2, 35)), (1, (0, i)), (2, (0, used)), (3, (0, k))]) (st' := [(2, 35), (2, 35)]) rfl ?_
                refine jget hF 13 56 0 56 rfl (by decide) (by decide) rfl wd_1519 (by decide +kernel) (by exact hS.k35) ?_
                refine jblk hF [(.iload_n 2, 1), (.aload_n 0, 1)] (by decide +kernel) (pc' := 125) (lo' := [(0, (2, 35)), (1, (0, i)), (2, (0, used)), (3, (0, k))]) (st' := [(2, 35), (0, used), (0, mem 35 56), (2, 35)]) rfl ?_
                refine jget hF 13 55 0 55 rfl (by decide) (by decide) rfl wd_1518 (by decide +kernel) (by exact hS.k35) ?_
                refine jicmp_ne hF (off := 7) 135 (by decide +kernel) (by decide) (by omega) (by omega) (fun h_68 => ?_) (fun h_68 => ?_)
                · refine jblk hF [(.iconst 0, 1), (.iadd, 1)] (by decide +kernel) (pc' := 137) (lo' := [(0, (2, 35)), (1, (0, i)), (2, (0, used)), (3, (0, k))]) (st' := [(0, (mem 35 56) + 0), (2, 35)]) rfl ?_
                  refine jput hF 13 56 0 56 rfl (by decide) (by decide) rfl wd_1519 (by decide +kernel) rfl (Or.inl rfl) (by exact hS.k35) (fun h => by cases h) ?_
                  refine jvret hF hr (by decide +kernel) ?_
                  exact lMV ⟨(SR.s hR (Or.inr (by decide))), by have hkN : k = mem 35 57 := (by omega); have hsT : skipN rs i (mem 35 57 - i).toNat = mem 35 57 := (by rw [hsk, hkN]; exact skip_n); rw [seekT (u := 1) (by decide) hsT]; first | exact ⟨hfs.tr (FS.p _ (by decide)), fun x _ _ => congrFun hz70.1 x, htr.of ⟨hz70.2.1, hz70.2.2.1, hz70.2.2.2⟩, fin_new (by omega) (by rw [hz55.1]; exact hu) (by rw [show (1 : Int) = j by omega]; exact hz74) (by omega)⟩ | exact ⟨FS.p _ (by decide), fun x _ _ => rfl, htr, fin_keep (by omega) hst (by first | (rw [if_pos (by omega)]; omega) | (rw [if_neg (by omega)]; omega))⟩ | (exfalso; omega)⟩
                · refine jblk hF [(.iconst 1, 1)] (by decide +kernel) (pc' := 132) (lo' := [(0, (2, 35)), (1, (0, i)), (2, (0, used)), (3, (0, k))]) (st' := [(0, 1), (0, mem 35 56), (2, 35)]) rfl ?_
                  refine jgoto hF (off := 4) 136 (by decide +kernel) (by decide) ?_
                  refine jblk hF [(.iadd, 1)] (by decide +kernel) (pc' := 137) (lo' := [(0, (2, 35)), (1, (0, i)), (2, (0, used)), (3, (0, k))]) (st' := [(0, (mem 35 56) + 1), (2, 35)]) rfl ?_
                  refine jput hF 13 56 0 56 rfl (by decide) (by decide) rfl wd_1519 (by decide +kernel) rfl (Or.inl rfl) (by exact hS.k35) (fun h => by cases h) ?_
                  refine jvret hF hr (by decide +kernel) ?_
                  exact lMV ⟨(SR.s hR (Or.inr (by decide))), by have hkN : k = mem 35 57 := (by omega); have hsT : skipN rs i (mem 35 57 - i).toNat = mem 35 57 := (by rw [hsk, hkN]; exact skip_n); rw [seekT (u := 1) (by decide) hsT]; first | exact ⟨hfs.tr (FS.p _ (by decide)), fun x _ _ => congrFun hz70.1 x, htr.of ⟨hz70.2.1, hz70.2.2.1, hz70.2.2.2⟩, fin_new (by omega) (by rw [hz55.1]; exact hu) (by rw [show (1 : Int) = j by omega]; exact hz74) (by omega)⟩ | exact ⟨FS.p _ (by decide), fun x _ _ => rfl, htr, fin_keep (by omega) hst (by first | (rw [if_pos (by omega)]; omega) | (rw [if_neg (by omega)]; omega))⟩ | (exfalso; omega)⟩
              · have hkN : k = mem 35 57 := by omega
                refine jblk hF [(.aload_n 0, 1), (.iload_n 2, 1)] (by decide +kernel) (pc' := 53) (lo' := [(0, (2, 35)), (1, (0, i)), (2, (0, used)), (3, (0, k))]) (st' := [(0, used), (2, 35)]) rfl ?_
                refine jput hF 13 55 0 55 rfl (by decide) (by decide) rfl wd_1518 (by decide +kernel) rfl (Or.inl rfl) (by exact hS.k35) (fun h => by cases h) ?_
                refine jblk hF [(.aload_n 0, 1), (.iconst 0, 1)] (by decide +kernel) (pc' := 58) (lo' := [(0, (2, 35)), (1, (0, i)), (2, (0, used)), (3, (0, k))]) (st' := [(0, 0), (2, 35)]) rfl ?_
                refine jput hF 13 56 0 56 rfl (by decide) (by decide) rfl wd_1519 (by decide +kernel) rfl (Or.inl rfl) (by exact hS.k35) (fun h => by cases h) ?_
                refine jblk hF [(.iconst 0, 1), (.istore 4, 2)] (by decide +kernel) (pc' := 64) (lo' := [(4, (0, 0)), (0, (2, 35)), (1, (0, i)), (2, (0, used)), (3, (0, k))]) (st' := []) rfl ?_
                have L_70 : ∀ (fu_71 : Nat) (j : Int) (m1 : Int → Int → Int), (0 ≤ j ∧ j ≤ 1) → (SR m1) → (FS mem m1) → (m1 70 = mem 70 ∧ m1 71 = mem 71 ∧ m1 72 = mem 72 ∧ m1 73 = mem 73) → (m1 35 55 = used ∧ m1 35 56 = 0) → (m1 74 = cpN j tl S.2.2.1 ∧ m1 75 = cpN j tc S.2.2.2.1 ∧ m1 76 = cpN j ta S.2.2.2.2) →  (4 - j).toNat < fu_71 → J z g 8 0 0 (QM z g 0 0 (pMV (fun mem' => SR mem' ∧ (FS mem mem' ∧ (∀ x : Int, 0 ≤ x → x < mem 35 57 → mem' 70 x = mem 70 x) ∧ TRY mem' 1 tl tc ta ∧ SKST mem' (seekF (mem 35 57) (mem 35 58) (mem 35 59) 3 rs i tl tc ta S))) kd ln sz)) 64 [(0, (2, 35)), (1, (0, i)), (2, (0, used)), (3, (0, k)), (4, (0, j))] [] kd ln m1 sz := by
                  intro fu_71
                  induction fu_71 with
                  | zero => intro j m1 _ _ _ _ _ _ hm; omega
                  | succ fu_71 ih_69 =>
                    intro j m1 hj hR_m1 hfs hz70 hz55 hz74 hm1
                    refine jblk hF [(.iload 4, 2), (.iload_n 2, 1)] (by decide +kernel) (pc' := 67) (lo' := [(0, (2, 35)), (1, (0, i)), (2, (0, used)), (3, (0, k)), (4, (0, j))]) (st' := [(0, used), (0, j)]) rfl ?_
                    refine jicmp_ge hF (off := 51) 118 (by decide +kernel) (by decide) (by omega) (by omega) (fun h_72 => ?_) (fun h_72 => ?_)
                    · refine jblk hF [(.aload_n 0, 1), (.dup, 1)] (by decide +kernel) (pc' := 120) (lo' := [(0, (2, 35)), (1, (0, i)), (2, (0, used)), (3, (0, k)), (4, (0, j))]) (st' := [(2, 35), (2, 35)]) rfl ?_
                      refine jget hF 13 56 0 56 rfl (by decide) (by decide) rfl wd_1519 (by decide +kernel) (by exact hS.k35) ?_
                      refine jblk hF [(.iload_n 2, 1), (.aload_n 0, 1)] (by decide +kernel) (pc' := 125) (lo' := [(0, (2, 35)), (1, (0, i)), (2, (0, used)), (3, (0, k)), (4, (0, j))]) (st' := [(2, 35), (0, used), (0, m1 35 56), (2, 35)]) rfl ?_
                      refine jget hF 13 55 0 55 rfl (by decide) (by decide) rfl wd_1518 (by decide +kernel) (by exact hS.k35) ?_
                      refine jicmp_ne hF (off := 7) 135 (by decide +kernel) (by decide) (by omega) (by omega) (fun h_73 => ?_) (fun h_73 => ?_)
                      · refine jblk hF [(.iconst 0, 1), (.iadd, 1)] (by decide +kernel) (pc' := 137) (lo' := [(0, (2, 35)), (1, (0, i)), (2, (0, used)), (3, (0, k)), (4, (0, j))]) (st' := [(0, (m1 35 56) + 0), (2, 35)]) rfl ?_
                        refine jput hF 13 56 0 56 rfl (by decide) (by decide) rfl wd_1519 (by decide +kernel) rfl (Or.inl rfl) (by exact hS.k35) (fun h => by cases h) ?_
                        refine jvret hF hr (by decide +kernel) ?_
                        exact lMV ⟨(SR.s hR_m1 (Or.inr (by decide))), by have hkN : k = mem 35 57 := (by omega); have hsT : skipN rs i (mem 35 57 - i).toNat = mem 35 57 := (by rw [hsk, hkN]; exact skip_n); rw [seekT (u := 1) (by decide) hsT]; first | exact ⟨hfs.tr (FS.p _ (by decide)), fun x _ _ => congrFun hz70.1 x, htr.of ⟨hz70.2.1, hz70.2.2.1, hz70.2.2.2⟩, fin_new (by omega) (by rw [hz55.1]; exact hu) (by rw [show (1 : Int) = j by omega]; exact hz74) (by omega)⟩ | exact ⟨FS.p _ (by decide), fun x _ _ => rfl, htr, fin_keep (by omega) hst (by first | (rw [if_pos (by omega)]; omega) | (rw [if_neg (by omega)]; omega))⟩ | (exfalso; omega)⟩
                      · refine jblk hF [(.iconst 1, 1)] (by decide +kernel) (pc' := 132) (lo' := [(0, (2, 35)), (1, (0, i)), (2, (0, used)), (3, (0, k)), (4, (0, j))]) (st' := [(0, 1), (0, m1 35 56), (2, 35)]) rfl ?_
                        refine jgoto hF (off := 4) 136 (by decide +kernel) (by decide) ?_
                        refine jblk hF [(.iadd, 1)] (by decide +kernel) (pc' := 137) (lo' := [(0, (2, 35)), (1, (0, i)), (2, (0, used)), (3, (0, k)), (4, (0, j))]) (st' := [(0, (m1 35 56) + 1), (2, 35)]) rfl ?_
                        refine jput hF 13 56 0 56 rfl (by decide) (by decide) rfl wd_1519 (by decide +kernel) rfl (Or.inl rfl) (by exact hS.k35) (fun h => by cases h) ?_
                        refine jvret hF hr (by decide +kernel) ?_
                        exact lMV ⟨(SR.s hR_m1 (Or.inr (by decide))), by have hkN : k = mem 35 57 := (by omega); have hsT : skipN rs i (mem 35 57 - i).toNat = mem 35 57 := (by rw [hsk, hkN]; exact skip_n); rw [seekT (u := 1) (by decide) hsT]; first | exact ⟨hfs.tr (FS.p _ (by decide)), fun x _ _ => congrFun hz70.1 x, htr.of ⟨hz70.2.1, hz70.2.2.1, hz70.2.2.2⟩, fin_new (by omega) (by rw [hz55.1]; exact hu) (by rw [show (1 : Int) = j by omega]; exact hz74) (by omega)⟩ | exact ⟨FS.p _ (by decide), fun x _ _ => rfl, htr, fin_keep (by omega) hst (by first | (rw [if_pos (by omega)]; omega) | (rw [if_neg (by omega)]; omega))⟩ | (exfalso; omega)⟩
                    · refine jblk hF [(.aload_n 0, 1)] (by decide +kernel) (pc' := 71) (lo' := [(0, (2, 35)), (1, (0, i)), (2, (0, used)), (3, (0, k)), (4, (0, j))]) (st' := [(2, 35)]) rfl ?_
                      refine jget hF 13 52 2 52 rfl (by decide) (by decide) rfl wd_1515 (by decide +kernel) (by exact hS.k35) ?_
                      rw [SR.r52 hR_m1]
                      refine jblk hF [(.iload 4, 2), (.aload_n 0, 1)] (by decide +kernel) (pc' := 77) (lo' := [(0, (2, 35)), (1, (0, i)), (2, (0, used)), (3, (0, k)), (4, (0, j))]) (st' := [(2, 35), (0, j), (2, 74)]) rfl ?_
                      refine jget hF 13 49 2 49 rfl (by decide) (by decide) rfl wd_1512 (by decide +kernel) (by exact hS.k35) ?_
                      rw [SR.r49 hR_m1]
                      refine jblk hF [(.iload 4, 2)] (by decide +kernel) (pc' := 82) (lo' := [(0, (2, 35)), (1, (0, i)), (2, (0, used)), (3, (0, k)), (4, (0, j))]) (st' := [(0, j), (2, 71), (0, j), (2, 74)]) rfl ?_
                      refine jiald hF (by decide +kernel) (by exact hS.k71) (by omega) (by have := hS.l71; omega) ?_
                      refine jiast hF (by decide +kernel) (by decide) (by exact hS.k74) (by omega) (by have := hS.l74; omega) ?_
                      refine jblk hF [(.aload_n 0, 1)] (by decide +kernel) (pc' := 85) (lo' := [(0, (2, 35)), (1, (0, i)), (2, (0, used)), (3, (0, k)), (4, (0, j))]) (st' := [(2, 35)]) rfl ?_
                      refine jget hF 13 53 2 53 rfl (by decide) (by decide) rfl wd_1516 (by decide +kernel) (by exact hS.k35) ?_
                      rw [SR.r53 (SR.s hR_m1 (Or.inl (by decide)))]
                      refine jblk hF [(.iload 4, 2), (.aload_n 0, 1)] (by decide +kernel) (pc' := 91) (lo' := [(0, (2, 35)), (1, (0, i)), (2, (0, used)), (3, (0, k)), (4, (0, j))]) (st' := [(2, 35), (0, j), (2, 75)]) rfl ?_
                      refine jget hF 13 50 2 50 rfl (by decide) (by decide) rfl wd_1513 (by decide +kernel) (by exact hS.k35) ?_
                      rw [SR.r50 (SR.s hR_m1 (Or.inl (by decide)))]
                      refine jblk hF [(.iload 4, 2)] (by decide +kernel) (pc' := 96) (lo' := [(0, (2, 35)), (1, (0, i)), (2, (0, used)), (3, (0, k)), (4, (0, j))]) (st' := [(0, j), (2, 72), (0, j), (2, 75)]) rfl ?_
                      refine jiald hF (by decide +kernel) (by exact hS.k72) (by omega) (by have := hS.l72; omega) ?_
                      rw [show (set2 m1 74 j (m1 71 j)) 72 j = m1 72 j from (s2_a (by decide))]
                      refine jiast hF (by decide +kernel) (by decide) (by exact hS.k75) (by omega) (by have := hS.l75; omega) ?_
                      refine jblk hF [(.aload_n 0, 1)] (by decide +kernel) (pc' := 99) (lo' := [(0, (2, 35)), (1, (0, i)), (2, (0, used)), (3, (0, k)), (4, (0, j))]) (st' := [(2, 35)]) rfl ?_
                      refine jget hF 13 54 2 54 rfl (by decide) (by decide) rfl wd_1517 (by decide +kernel) (by exact hS.k35) ?_
                      rw [SR.r54 (SR.s (SR.s hR_m1 (Or.inl (by decide))) (Or.inl (by decide)))]
                      refine jblk hF [(.iload 4, 2), (.aload_n 0, 1)] (by decide +kernel) (pc' := 105) (lo' := [(0, (2, 35)), (1, (0, i)), (2, (0, used)), (3, (0, k)), (4, (0, j))]) (st' := [(2, 35), (0, j), (2, 76)]) rfl ?_
                      refine jget hF 13 51 2 51 rfl (by decide) (by decide) rfl wd_1514 (by decide +kernel) (by exact hS.k35) ?_
                      rw [SR.r51 (SR.s (SR.s hR_m1 (Or.inl (by decide))) (Or.inl (by decide)))]
                      refine jblk hF [(.iload 4, 2)] (by decide +kernel) (pc' := 110) (lo' := [(0, (2, 35)), (1, (0, i)), (2, (0, used)), (3, (0, k)), (4, (0, j))]) (st' := [(0, j), (2, 73), (0, j), (2, 76)]) rfl ?_
                      refine jlald hF (by decide +kernel) (by exact hS.k73) (by omega) (by have := hS.l73; omega) ?_
                      rw [show (set2 (set2 m1 74 j (m1 71 j)) 75 j (m1 72 j)) 73 j = m1 73 j from ((s2_a (by decide)).trans (s2_a (by decide)))]
                      refine jlast hF (by decide +kernel) (by decide) (by exact hS.k76) (by omega) (by have := hS.l76; omega) ?_
                      refine jblk hF [(.iinc 4 1, 3)] (by decide +kernel) (pc' := 115) (lo' := [(4, (0, j + 1)), (0, (2, 35)), (1, (0, i)), (2, (0, used)), (3, (0, k))]) (st' := []) rfl ?_
                      refine jgoto hF (off := (-51)) 64 (by decide +kernel) (by decide) ?_
                      refine jsub [1, 2, 3, 4, 0] rfl ?_
                      refine ih_69 (j + 1) (set2 (set2 (set2 m1 74 j (m1 71 j)) 75 j (m1 72 j)) 76 j (m1 73 j)) ?_ ?_ ?_ ?_ ?_ ?_ ?_
                      · omega
                      · exact ((hR_m1.s (Or.inl (by decide))).s (Or.inl (by decide))).s (Or.inl (by decide))
                      · exact ((hfs.tr (FS.s _ _ (by decide))).tr (FS.s _ _ (by decide))).tr (FS.s _ _ (by decide))
                      · exact ⟨hz70.1, hz70.2.1, hz70.2.2.1, hz70.2.2.2⟩
                      · exact hz55
                      · have h9 := htr j (by omega) (by omega); exact cp3 (by omega) hz74 ⟨by rw [hz70.2.1]; exact h9.1, by rw [hz70.2.2.1]; exact h9.2.1, by rw [hz70.2.2.2]; exact h9.2.2⟩
                      · omega
                refine jsub [1, 2, 3, 4, 0] rfl ?_
                refine L_70 _ 0 (set2 (set2 mem 35 55 used) 35 56 0) ?_ ?_ ?_ ?_ ?_ ?_ (Nat.lt_succ_self _)
                · omega
                · exact (hR.s (Or.inr (by decide))).s (Or.inr (by decide))
                · exact (FS.p _ (by decide)).tr (FS.p _ (by decide))
                · exact ⟨rfl, rfl, rfl, rfl⟩
                · exact ⟨by rw [s2_k (by decide), s2_s], by rw [s2_s]⟩
                · exact ⟨cpN_0 hst.2.2.1, cpN_0 hst.2.2.2.1, cpN_0 hst.2.2.2.2⟩
        · refine jblk hF [(.iinc 3 1, 3)] (by decide +kernel) (pc' := 24) (lo' := [(3, (0, k + 1)), (0, (2, 35)), (1, (0, i)), (2, (0, used))]) (st' := []) rfl ?_
          refine jgoto hF (off := (-22)) 2 (by decide +kernel) (by decide) ?_
          refine jsub [1, 2, 3, 0] rfl ?_
          refine ih_1 (k + 1) ?_ ?_ ?_
          · omega
          · rw [hsk]; have hrk2 := hrk (by omega); exact skip_s (by omega) (by rw [← hrk2]; first | assumption | omega)
          · omega
  refine jsub [1, 2, 3, 0] rfl ?_
  refine L_2 _ i ?_ ?_ (Nat.lt_succ_self _)
  · omega
  · rfl
set_option maxHeartbeats 4000000 in
set_option maxRecDepth 100000 in
theorem c_seek0 {l : Launch} {g : GP} (hG : GH g) {kd : Int → Nat} {ln : Int → Int} {mem : Int → Int → Int} {sz : Nat} (hS : SK kd ln) (hR : SR mem) (i used : Int) (rs : Int → Int) (tl : Int → Int) (tc : Int → Int) (ta : Int → Int) (S : ST) (hu : used = 0) (hi : 0 ≤ i ∧ i ≤ mem 35 57) (hN : 0 ≤ mem 35 57 ∧ mem 35 57 ≤ 40) (ho : 0 ≤ mem 35 58 ∧ mem 35 58 ≤ 4) (hh : 0 ≤ mem 35 59 ∧ mem 35 59 ≤ 40) (hrs : ∀ x : Int, 0 ≤ x → x < mem 35 57 → mem 70 x = rs x) (htr : TRY mem 0 tl tc ta) (hst : SKST mem S) (hsb : SB S) : MT l g yX12_seek cX12_seek 8 none 5 0 0 [(2, 35), (0, i), (0, used)] kd ln mem sz (pMV (fun mem' => SR mem' ∧ (FS mem mem' ∧ (∀ x : Int, 0 ≤ x → x < mem 35 57 → mem' 70 x = mem 70 x) ∧ TRY mem' 0 tl tc ta ∧ SKST mem' (seekF (mem 35 57) (mem 35 58) (mem 35 59) 4 rs i tl tc ta S))) kd ln sz) := by
  refine MT_of hG (by decide +kernel) (Nat.le_of_ble_eq_true rfl) (fun z hF hr hn => ?_)
  have hb1 := hsb.1
  have hb2 := hsb.2
  have h55 := hst.1
  have h56 := hst.2.1
  refine jblk hF [(.iload_n 1, 1), (.istore_n 3, 1)] (by decide +kernel) (pc' := 2) (lo' := [(3, (0, i)), (0, (2, 35)), (1, (0, i)), (2, (0, used))]) (st' := []) rfl ?_
  have L_2 : ∀ (fu_3 : Nat) (k : Int), (i ≤ k ∧ k ≤ mem 35 57) → (skipN rs i (mem 35 57 - i).toNat = skipN rs k (mem 35 57 - k).toNat) →  (mem 35 57 - k).toNat < fu_3 → J z g 8 0 0 (QM z g 0 0 (pMV (fun mem' => SR mem' ∧ (FS mem mem' ∧ (∀ x : Int, 0 ≤ x → x < mem 35 57 → mem' 70 x = mem 70 x) ∧ TRY mem' 0 tl tc ta ∧ SKST mem' (seekF (mem 35 57) (mem 35 58) (mem 35 59) 4 rs i tl tc ta S))) kd ln sz)) 2 [(0, (2, 35)), (1, (0, i)), (2, (0, used)), (3, (0, k))] [] kd ln mem sz := by
    intro fu_3
    induction fu_3 with
    | zero => intro k _ _ hm; omega
    | succ fu_3 ih_1 =>
      intro k hk hsk hm
      have hrk : k < mem 35 57 → mem 70 k = rs k := fun h => hrs k (by omega) h
      refine jblk hF [(.iload_n 3, 1), (.aload_n 0, 1)] (by decide +kernel) (pc' := 4) (lo' := [(0, (2, 35)), (1, (0, i)), (2, (0, used)), (3, (0, k))]) (st' := [(2, 35), (0, k)]) rfl ?_
      refine jget hF 13 57 0 57 rfl (by decide) (by decide) rfl wd_1520 (by decide +kernel) (by exact hS.k35) ?_
      refine jicmp_ge hF (off := 20) 27 (by decide +kernel) (by decide) (by omega) (by omega) (fun h_4 => ?_) (fun h_4 => ?_)
      · refine jblk hF [(.iload_n 3, 1), (.aload_n 0, 1)] (by decide +kernel) (pc' := 29) (lo' := [(0, (2, 35)), (1, (0, i)), (2, (0, used)), (3, (0, k))]) (st' := [(2, 35), (0, k)]) rfl ?_
        refine jget hF 13 57 0 57 rfl (by decide) (by decide) rfl wd_1520 (by decide +kernel) (by exact hS.k35) ?_
        refine jicmp_ne hF (off := 109) 141 (by decide +kernel) (by decide) (by omega) (by omega) (fun h_5 => ?_) (fun h_5 => ?_)
        · refine jblk hF [(.iload_n 2, 1), (.iconst 4, 1)] (by decide +kernel) (pc' := 143) (lo' := [(0, (2, 35)), (1, (0, i)), (2, (0, used)), (3, (0, k))]) (st' := [(0, 4), (0, used)]) rfl ?_
          refine jicmp_ne hF (off := 4) 147 (by decide +kernel) (by decide) (by omega) (by decide) (fun h_6 => ?_) (fun h_6 => ?_)
          · have hrk2 := hrk (by omega)
            have hske : skipN rs i (mem 35 57 - i).toNat = k := by rw [hsk]; exact skip_e (by omega) (by rw [← hrk2]; first | assumption | omega)
            obtain ⟨FF, hFF⟩ : ∃ FF : Int → ST → ST, FF = (fun c => seekF (mem 35 57) (mem 35 58) (mem 35 59) 3 (markJ (mem 35 57) rs k (tmC (mem 35 58) c) (-(rs k)) (tmC (mem 35 58) c + 1)) (k + 1) (upI tl 0 (mem 35 59 + k)) (upI tc 0 (coC (mem 35 58) c)) (upI ta 0 (rs k))) := ⟨_, rfl⟩
            have hFFa := fun (c9 : Int) (S9 : ST) => congrFun (congrFun hFF c9) S9
            have hSBF := fun (rs : Int → Int) (i : Int) (tl tc ta : Int → Int) (S : ST) (h : SB S) => (seekF_bd (N := mem 35 57) (o := mem 35 58) (h := mem 35 59) 3 (by decide) rs i tl tc ta S h).1
            refine jblk hF [(.aload_n 0, 1)] (by decide +kernel) (pc' := 148) (lo' := [(0, (2, 35)), (1, (0, i)), (2, (0, used)), (3, (0, k))]) (st' := [(2, 35)]) rfl ?_
            refine jget hF 13 48 2 48 rfl (by decide) (by decide) rfl wd_1511 (by decide +kernel) (by exact hS.k35) ?_
            rw [SR.r48 hR]
            refine jblk hF [(.iload_n 3, 1)] (by decide +kernel) (pc' := 152) (lo' := [(0, (2, 35)), (1, (0, i)), (2, (0, used)), (3, (0, k))]) (st' := [(0, k), (2, 70)]) rfl ?_
            refine jlald hF (by decide +kernel) (by exact hS.k70) (by omega) (by have := hS.l70; omega) ?_
            refine jblk hF [(.lstore 4, 2), (.iconst 0, 1), (.istore 6, 2)] (by decide +kernel) (pc' := 158) (lo' := [(6, (0, 0)), (4, (1, mem 70 k)), (0, (2, 35)), (1, (0, i)), (2, (0, used)), (3, (0, k))]) (st' := []) rfl ?_
            have L_8 : ∀ (fu_9 : Nat) (c : Int) (m2 : Int → Int → Int), (0 ≤ c ∧ c ≤ mem 35 58 + 1) → (SR m2) → (FS mem m2) → (∀ x : Int, 0 ≤ x → x < mem 35 57 → m2 70 x = rs x) → (TRY m2 0 tl tc ta) → (SKST m2 (foldC FF c.toNat S)) → (SB (foldC FF c.toNat S)) →  (mem 35 58 + 1 - c).toNat < fu_9 → J z g 8 0 0 (QM z g 0 0 (pMV (fun mem' => SR mem' ∧ (FS mem mem' ∧ (∀ x : Int, 0 ≤ x → x < mem 35 57 → mem' 70 x = mem 70 x) ∧ TRY mem' 0 tl tc ta ∧ SKST mem' (seekF (mem 35 57) (mem 35 58) (mem 35 59) 4 rs i tl tc ta S))) kd ln sz)) 158 [(0, (2, 35)), (1, (0, i)), (2, (0, used)), (3, (0, k)), (4, (1, mem 70 k)), (6, (0, c))] [] kd ln m2 sz := by
              intro fu_9
              induction fu_9 with
              | zero => intro c m2 _ _ _ _ _ _ _ hm; omega
              | succ fu_9 ih_7 =>
                intro c m2 hc hR_m2 hfs2 hz70b htr2 hst2 hsb2 hm2
                have f57 : m2 35 57 = mem 35 57 := hfs2 35 57 (by decide) (by decide) (by decide) (by decide) (by decide) (by decide) (by decide) (by decide)
                have f58 : m2 35 58 = mem 35 58 := hfs2 35 58 (by decide) (by decide) (by decide) (by decide) (by decide) (by decide) (by decide) (by decide)
                have f59 : m2 35 59 = mem 35 59 := hfs2 35 59 (by decide) (by decide) (by decide) (by decide) (by decide) (by decide) (by decide) (by decide)
                refine jblk hF [(.iload 6, 2), (.aload_n 0, 1)] (by decide +kernel) (pc' := 161) (lo' := [(0, (2, 35)), (1, (0, i)), (2, (0, used)), (3, (0, k)), (4, (1, mem 70 k)), (6, (0, c))]) (st' := [(2, 35), (0, c)]) rfl ?_
                refine jget hF 13 58 0 58 rfl (by decide) (by decide) rfl wd_1521 (by decide +kernel) (by exact hS.k35) ?_
                refine jicmp_gt hF (off := 107) 271 (by decide +kernel) (by decide) (by omega) (by omega) (fun h_10 => ?_) (fun h_10 => ?_)
                · refine jvret hF hr (by decide +kernel) ?_
                  exact lMV ⟨hR_m2, by exact ⟨hfs2, fun x h1 h2 => by rw [hz70b x h1 h2, hrs x h1 h2], htr2, by rw [show (4 : Nat) = 3 + 1 from rfl, seekL (u := 0) (by decide) hske (by omega), ← hFF, show (mem 35 58 + 1).toNat = c.toNat by omega]; exact hst2⟩⟩
                · refine jblk hF [(.iload 6, 2), (.aload_n 0, 1)] (by decide +kernel) (pc' := 170) (lo' := [(0, (2, 35)), (1, (0, i)), (2, (0, used)), (3, (0, k)), (4, (1, mem 70 k)), (6, (0, c))]) (st' := [(2, 35), (0, c)]) rfl ?_
                  refine jget hF 13 58 0 58 rfl (by decide) (by decide) rfl wd_1521 (by decide +kernel) (by exact hS.k35) ?_
                  refine jicmp_ne hF (off := 12) 185 (by decide +kernel) (by decide) (by omega) (by omega) (fun h_11 => ?_) (fun h_11 => ?_)
                  · refine jblk hF [(.aload_n 0, 1)] (by decide +kernel) (pc' := 186) (lo' := [(0, (2, 35)), (1, (0, i)), (2, (0, used)), (3, (0, k)), (4, (1, mem 70 k)), (6, (0, c))]) (st' := [(2, 35)]) rfl ?_
                    refine jget hF 13 58 0 58 rfl (by decide) (by decide) rfl wd_1521 (by decide +kernel) (by exact hS.k35) ?_
                    refine jblk hF [(.iload 6, 2), (.isub, 1), (.istore 7, 2)] (by decide +kernel) (pc' := 194) (lo' := [(7, (0, (m2 35 58) - c)), (0, (2, 35)), (1, (0, i)), (2, (0, used)), (3, (0, k)), (4, (1, mem 70 k)), (6, (0, c))]) (st' := []) rfl ?_
                    have hT : ((m2 35 58) - c) = tmC (mem 35 58) c := by unfold tmC; first | (rw [if_pos (by omega)]; omega) | (rw [if_neg (by omega)]; omega)
                    have hT5 : 0 ≤ tmC (mem 35 58) c ∧ tmC (mem 35 58) c ≤ 5 := by omega
                    refine jblk hF [(.aload_n 0, 1), (.iload_n 3, 1), (.iload 7, 2), (.lload 4, 2), (.lneg, 1)] (by decide +kernel) (pc' := 201) (lo' := [(7, (0, (m2 35 58) - c)), (0, (2, 35)), (1, (0, i)), (2, (0, used)), (3, (0, k)), (4, (1, mem 70 k)), (6, (0, c))]) (st' := [(1, -(mem 70 k)), (0, (m2 35 58) - c), (0, k), (2, 35)]) rfl ?_
                    refine jcallV hF (c_X12_mark hG hS hR_m2 k ((m2 35 58) - c) (-(mem 70 k)) (by omega) (by omega) (by first | omega | (rw [e57]; omega))) MW_X12_mark 13 (by decide) (by exact hS.k35) wd_2121 wd_2123 wd_p97 (by decide +kernel) [] rfl rfl (by decide) (Nat.le_of_ble_eq_true rfl) (by decide) (kMV (fun m_12 h_13 => ?_))
                    obtain ⟨hR_m_12, h_13⟩ := h_13
                    have hb9 := h_13.1
                    have hx9 := h_13.2
                    have j58 := hb9 35 58 (by decide)
                    have j59 := hb9 35 59 (by decide)
                    refine jblk hF [(.aload_n 0, 1)] (by decide +kernel) (pc' := 205) (lo' := [(7, (0, (m2 35 58) - c)), (0, (2, 35)), (1, (0, i)), (2, (0, used)), (3, (0, k)), (4, (1, mem 70 k)), (6, (0, c))]) (st' := [(2, 35)]) rfl ?_
                    refine jget hF 13 49 2 49 rfl (by decide) (by decide) rfl wd_1512 (by decide +kernel) (by exact hS.k35) ?_
                    rw [SR.r49 hR_m_12]
                    refine jblk hF [(.iload_n 2, 1), (.aload_n 0, 1)] (by decide +kernel) (pc' := 210) (lo' := [(7, (0, (m2 35 58) - c)), (0, (2, 35)), (1, (0, i)), (2, (0, used)), (3, (0, k)), (4, (1, mem 70 k)), (6, (0, c))]) (st' := [(2, 35), (0, used), (2, 71)]) rfl ?_
                    refine jget hF 13 59 0 59 rfl (by decide) (by decide) rfl wd_1522 (by decide +kernel) (by exact hS.k35) ?_
                    refine jblk hF [(.iload_n 3, 1), (.iadd, 1)] (by decide +kernel) (pc' := 215) (lo' := [(7, (0, (m2 35 58) - c)), (0, (2, 35)), (1, (0, i)), (2, (0, used)), (3, (0, k)), (4, (1, mem 70 k)), (6, (0, c))]) (st' := [(0, (m_12 35 59) + k), (0, used), (2, 71)]) rfl ?_
                    refine jiast hF (by decide +kernel) (by decide) (by exact hS.k71) (by omega) (by have := hS.l71; omega) ?_
                    refine jblk hF [(.aload_n 0, 1)] (by decide +kernel) (pc' := 217) (lo' := [(7, (0, (m2 35 58) - c)), (0, (2, 35)), (1, (0, i)), (2, (0, used)), (3, (0, k)), (4, (1, mem 70 k)), (6, (0, c))]) (st' := [(2, 35)]) rfl ?_
                    refine jget hF 13 50 2 50 rfl (by decide) (by decide) rfl wd_1513 (by decide +kernel) (by exact hS.k35) ?_
                    rw [SR.r50 (SR.s hR_m_12 (Or.inl (by decide)))]
                    refine jblk hF [(.iload_n 2, 1), (.iload 6, 2), (.aload_n 0, 1)] (by decide +kernel) (pc' := 224) (lo' := [(7, (0, (m2 35 58) - c)), (0, (2, 35)), (1, (0, i)), (2, (0, used)), (3, (0, k)), (4, (1, mem 70 k)), (6, (0, c))]) (st' := [(2, 35), (0, c), (0, used), (2, 72)]) rfl ?_
                    refine jget hF 13 58 0 58 rfl (by decide) (by decide) rfl wd_1521 (by decide +kernel) (by exact hS.k35) ?_
                    rw [show (set2 m_12 71 used ((m_12 35 59) + k)) 35 58 = m_12 35 58 from (s2_a (by decide))]
                    refine jicmp_ne hF (off := 8) 235 (by decide +kernel) (by decide) (by omega) (by omega) (fun _ => ?_) (fun h => absurd h (by omega))
                    refine jblk hF [(.iload 6, 2)] (by decide +kernel) (pc' := 237) (lo' := [(7, (0, (m2 35 58) - c)), (0, (2, 35)), (1, (0, i)), (2, (0, used)), (3, (0, k)), (4, (1, mem 70 k)), (6, (0, c))]) (st' := [(0, c), (0, used), (2, 72)]) rfl ?_
                    have hCo : c = coC (mem 35 58) c := by unfold coC; first | exact (if_pos (by omega)).symm | exact (if_neg (by omega)).symm
                    refine jiast hF (by decide +kernel) (by decide) (by exact hS.k72) (by omega) (by have := hS.l72; omega) ?_
                    refine jblk hF [(.aload_n 0, 1)] (by decide +kernel) (pc' := 239) (lo' := [(7, (0, (m2 35 58) - c)), (0, (2, 35)), (1, (0, i)), (2, (0, used)), (3, (0, k)), (4, (1, mem 70 k)), (6, (0, c))]) (st' := [(2, 35)]) rfl ?_
                    refine jget hF 13 51 2 51 rfl (by decide) (by decide) rfl wd_1514 (by decide +kernel) (by exact hS.k35) ?_
                    rw [SR.r51 (SR.s (SR.s hR_m_12 (Or.inl (by decide))) (Or.inl (by decide)))]
                    refine jblk hF [(.iload_n 2, 1), (.lload 4, 2)] (by decide +kernel) (pc' := 245) (lo' := [(7, (0, (m2 35 58) - c)), (0, (2, 35)), (1, (0, i)), (2, (0, used)), (3, (0, k)), (4, (1, mem 70 k)), (6, (0, c))]) (st' := [(1, mem 70 k), (0, used), (2, 73)]) rfl ?_
                    refine jlast hF (by decide +kernel) (by decide) (by exact hS.k73) (by omega) (by have := hS.l73; omega) ?_
                    have hfs9 : FS mem (set2 (set2 (set2 m_12 71 used ((m_12 35 59) + k)) 72 used c) 73 used (mem 70 k)) := ((hfs2.tr (FS.of70 hb9)).tr (FS.s _ _ (by decide))).tr ((FS.s _ _ (by decide)).tr (FS.s _ _ (by decide)))
                    have g57 : (set2 (set2 (set2 m_12 71 used ((m_12 35 59) + k)) 72 used c) 73 used (mem 70 k)) 35 57 = mem 35 57 := hfs9 35 57 (by decide) (by decide) (by decide) (by decide) (by decide) (by decide) (by decide) (by decide)
                    have g58 : (set2 (set2 (set2 m_12 71 used ((m_12 35 59) + k)) 72 used c) 73 used (mem 70 k)) 35 58 = mem 35 58 := hfs9 35 58 (by decide) (by decide) (by decide) (by decide) (by decide) (by decide) (by decide) (by decide)
                    have g59 : (set2 (set2 (set2 m_12 71 used ((m_12 35 59) + k)) 72 used c) 73 used (mem 70 k)) 35 59 = mem 35 59 := hfs9 35 59 (by decide) (by decide) (by decide) (by decide) (by decide) (by decide) (by decide) (by decide)
                    have hrs9 : ∀ x : Int, 0 ≤ x → x < mem 35 57 → (set2 (set2 (set2 m_12 71 used ((m_12 35 59) + k)) 72 used c) 73 used (mem 70 k)) 70 x = markJ (mem 35 57) rs k (tmC (mem 35 58) c) (-(rs k)) (tmC (mem 35 58) c + 1) x := fun x h1 h2 => by rw [s2_a (by decide), s2_a (by decide), s2_a (by decide), hx9 x, hT, f57, hrk2]; exact markJ_congr hz70b x h1 h2
                    have htr9 : TRY (set2 (set2 (set2 m_12 71 used ((m_12 35 59) + k)) 72 used c) 73 used (mem 70 k)) 1 (upI tl 0 (mem 35 59 + k)) (upI tc 0 (coC (mem 35 58) c)) (upI ta 0 (rs k)) := by rw [hu]; exact try_up (htr2.of ⟨funext fun j => hb9 71 j (by decide), funext fun j => hb9 72 j (by decide), funext fun j => hb9 73 j (by decide)⟩) (by omega) hCo hrk2
                    have hst9 : SKST (set2 (set2 (set2 m_12 71 used ((m_12 35 59) + k)) 72 used c) 73 used (mem 70 k)) (foldC FF c.toNat S) := hst2.of (fun a j q1 q2 q3 q4 => by rw [s2_a q4, s2_a q3, s2_a q2, hb9 a j q1])
                    refine jblk hF [(.aload_n 0, 1), (.iload_n 3, 1), (.iconst 1, 1), (.iadd, 1), (.iload_n 2, 1), (.iconst 1, 1), (.iadd, 1)] (by decide +kernel) (pc' := 253) (lo' := [(7, (0, (m2 35 58) - c)), (0, (2, 35)), (1, (0, i)), (2, (0, used)), (3, (0, k)), (4, (1, mem 70 k)), (6, (0, c))]) (st' := [(0, used + 1), (0, k + 1), (2, 35)]) rfl ?_
                    refine jcallV hF (c_seek1 hG hS (SR.s (SR.s (SR.s hR_m_12 (Or.inl (by decide))) (Or.inl (by decide))) (Or.inl (by decide))) (k + 1) (used + 1) (by exact (markJ (mem 35 57) rs k (tmC (mem 35 58) c) (-(rs k)) (tmC (mem 35 58) c + 1))) (by exact (upI tl 0 (mem 35 59 + k))) (by exact (upI tc 0 (coC (mem 35 58) c))) (by exact (upI ta 0 (rs k))) (by exact (foldC FF c.toNat S)) (by omega) (by first | omega | (rw [g57]; omega) | (rw [g58]; omega) | (rw [g59]; omega)) (by first | omega | (rw [g57]; omega) | (rw [g58]; omega) | (rw [g59]; omega)) (by first | omega | (rw [g57]; omega) | (rw [g58]; omega) | (rw [g59]; omega)) (by first | omega | (rw [g57]; omega) | (rw [g58]; omega) | (rw [g59]; omega)) (by rw [g57]; exact hrs9) (by exact htr9) (by exact hst9) (by exact hsb2)) MW_X12_seek 13 (by decide) (by exact hS.k35) wd_2117 wd_2119 wd_p96 (by decide +kernel) [] rfl rfl (by decide) (Nat.le_of_ble_eq_true rfl) (by decide) (kMV (fun m_15 h_16 => ?_))
                    obtain ⟨hR_m_15, h_16⟩ := h_16
                    obtain ⟨hfs8, hz8, htr8, hst8⟩ := h_16
                    rw [g57] at hz8
                    rw [g57, g58, g59] at hst8
                    have i57 : m_15 35 57 = mem 35 57 := (hfs9.tr hfs8) 35 57 (by decide) (by decide) (by decide) (by decide) (by decide) (by decide) (by decide) (by decide)
                    refine jblk hF [(.aload_n 0, 1), (.iload_n 3, 1), (.iload 7, 2), (.lload 4, 2)] (by decide +kernel) (pc' := 262) (lo' := [(7, (0, (m2 35 58) - c)), (0, (2, 35)), (1, (0, i)), (2, (0, used)), (3, (0, k)), (4, (1, mem 70 k)), (6, (0, c))]) (st' := [(1, mem 70 k), (0, (m2 35 58) - c), (0, k), (2, 35)]) rfl ?_
                    refine jcallV hF (c_X12_mark hG hS hR_m_15 k ((m2 35 58) - c) (mem 70 k) (by omega) (by omega) (by first | omega | (rw [e57]; omega))) MW_X12_mark 13 (by decide) (by exact hS.k35) wd_2121 wd_2123 wd_p97 (by decide +kernel) [] rfl rfl (by decide) (Nat.le_of_ble_eq_true rfl) (by decide) (kMV (fun m_17 h_18 => ?_))
                    obtain ⟨hR_m_17, h_18⟩ := h_18
                    have hfs3 : FS mem m_17 := (hfs9.tr hfs8).tr (FS.of70 h_18.1)
                    have hz3 : ∀ x : Int, 0 ≤ x → x < mem 35 57 → m_17 70 x = rs x := fun x h1 h2 => by rw [h_18.2 x, hT, i57, hrk2, markJ_congr (fun y h1 h2 => (hz8 y h1 h2).trans (hrs9 y h1 h2)) x h1 h2]; exact markJ_back x
                    have htr3 : TRY m_17 0 tl tc ta := (try_dn (u := 0) htr8).of ⟨funext fun j => h_18.1 71 j (by decide), funext fun j => h_18.1 72 j (by decide), funext fun j => h_18.1 73 j (by decide)⟩
                    have hst3 : SKST m_17 (FF c (foldC FF c.toNat S)) := by rw [hFFa]; exact hst8.of (fun a j q1 _ _ _ => h_18.1 a j q1)
                    refine jblk hF [(.iinc 6 1, 3)] (by decide +kernel) (pc' := 268) (lo' := [(6, (0, c + 1)), (7, (0, (m2 35 58) - c)), (0, (2, 35)), (1, (0, i)), (2, (0, used)), (3, (0, k)), (4, (1, mem 70 k))]) (st' := []) rfl ?_
                    refine jgoto hF (off := (-110)) 158 (by decide +kernel) (by decide) ?_
                    refine jsub [2, 3, 4, 5, 6, 0] rfl ?_
                    refine ih_7 (c + 1) m_17 ?_ ?_ ?_ ?_ ?_ ?_ ?_ ?_
                    · omega
                    · assumption
                    · exact hfs3
                    · exact hz3
                    · exact htr3
                    · rw [foldC_s (by omega)]; exact hst3
                    · rw [foldC_s (by omega), hFFa]; exact hSBF _ _ _ _ _ _ hsb2
                    · omega
                  · refine jblk hF [(.aload_n 0, 1)] (by decide +kernel) (pc' := 177) (lo' := [(0, (2, 35)), (1, (0, i)), (2, (0, used)), (3, (0, k)), (4, (1, mem 70 k)), (6, (0, c))]) (st' := [(2, 35)]) rfl ?_
                    refine jget hF 13 58 0 58 rfl (by decide) (by decide) rfl wd_1521 (by decide +kernel) (by exact hS.k35) ?_
                    refine jblk hF [(.iconst 1, 1), (.iadd, 1)] (by decide +kernel) (pc' := 182) (lo' := [(0, (2, 35)), (1, (0, i)), (2, (0, used)), (3, (0, k)), (4, (1, mem 70 k)), (6, (0, c))]) (st' := [(0, (m2 35 58) + 1)]) rfl ?_
                    refine jgoto hF (off := 10) 192 (by decide +kernel) (by decide) ?_
                    refine jblk hF [(.istore 7, 2)] (by decide +kernel) (pc' := 194) (lo' := [(7, (0, (m2 35 58) + 1)), (0, (2, 35)), (1, (0, i)), (2, (0, used)), (3, (0, k)), (4, (1, mem 70 k)), (6, (0, c))]) (st' := []) rfl ?_
                    have hT : ((m2 35 58) + 1) = tmC (mem 35 58) c := by unfold tmC; first | (rw [if_pos (by omega)]; omega) | (rw [if_neg (by omega)]; omega)
                    have hT5 : 0 ≤ tmC (mem 35 58) c ∧ tmC (mem 35 58) c ≤ 5 := by omega
                    refine jblk hF [(.aload_n 0, 1), (.iload_n 3, 1), (.iload 7, 2), (.lload 4, 2), (.lneg, 1)] (by decide +kernel) (pc' := 201) (lo' := [(7, (0, (m2 35 58) + 1)), (0, (2, 35)), (1, (0, i)), (2, (0, used)), (3, (0, k)), (4, (1, mem 70 k)), (6, (0, c))]) (st' := [(1, -(mem 70 k)), (0, (m2 35 58) + 1), (0, k), (2, 35)]) rfl ?_
                    refine jcallV hF (c_X12_mark hG hS hR_m2 k ((m2 35 58) + 1) (-(mem 70 k)) (by omega) (by omega) (by first | omega | (rw [e57]; omega))) MW_X12_mark 13 (by decide) (by exact hS.k35) wd_2121 wd_2123 wd_p97 (by decide +kernel) [] rfl rfl (by decide) (Nat.le_of_ble_eq_true rfl) (by decide) (kMV (fun m_19 h_20 => ?_))
                    obtain ⟨hR_m_19, h_20⟩ := h_20
                    have hb9 := h_20.1
                    have hx9 := h_20.2
                    have j58 := hb9 35 58 (by decide)
                    have j59 := hb9 35 59 (by decide)
                    refine jblk hF [(.aload_n 0, 1)] (by decide +kernel) (pc' := 205) (lo' := [(7, (0, (m2 35 58) + 1)), (0, (2, 35)), (1, (0, i)), (2, (0, used)), (3, (0, k)), (4, (1, mem 70 k)), (6, (0, c))]) (st' := [(2, 35)]) rfl ?_
                    refine jget hF 13 49 2 49 rfl (by decide) (by decide) rfl wd_1512 (by decide +kernel) (by exact hS.k35) ?_
                    rw [SR.r49 hR_m_19]
                    refine jblk hF [(.iload_n 2, 1), (.aload_n 0, 1)] (by decide +kernel) (pc' := 210) (lo' := [(7, (0, (m2 35 58) + 1)), (0, (2, 35)), (1, (0, i)), (2, (0, used)), (3, (0, k)), (4, (1, mem 70 k)), (6, (0, c))]) (st' := [(2, 35), (0, used), (2, 71)]) rfl ?_
                    refine jget hF 13 59 0 59 rfl (by decide) (by decide) rfl wd_1522 (by decide +kernel) (by exact hS.k35) ?_
                    refine jblk hF [(.iload_n 3, 1), (.iadd, 1)] (by decide +kernel) (pc' := 215) (lo' := [(7, (0, (m2 35 58) + 1)), (0, (2, 35)), (1, (0, i)), (2, (0, used)), (3, (0, k)), (4, (1, mem 70 k)), (6, (0, c))]) (st' := [(0, (m_19 35 59) + k), (0, used), (2, 71)]) rfl ?_
                    refine jiast hF (by decide +kernel) (by decide) (by exact hS.k71) (by omega) (by have := hS.l71; omega) ?_
                    refine jblk hF [(.aload_n 0, 1)] (by decide +kernel) (pc' := 217) (lo' := [(7, (0, (m2 35 58) + 1)), (0, (2, 35)), (1, (0, i)), (2, (0, used)), (3, (0, k)), (4, (1, mem 70 k)), (6, (0, c))]) (st' := [(2, 35)]) rfl ?_
                    refine jget hF 13 50 2 50 rfl (by decide) (by decide) rfl wd_1513 (by decide +kernel) (by exact hS.k35) ?_
                    rw [SR.r50 (SR.s hR_m_19 (Or.inl (by decide)))]
                    refine jblk hF [(.iload_n 2, 1), (.iload 6, 2), (.aload_n 0, 1)] (by decide +kernel) (pc' := 224) (lo' := [(7, (0, (m2 35 58) + 1)), (0, (2, 35)), (1, (0, i)), (2, (0, used)), (3, (0, k)), (4, (1, mem 70 k)), (6, (0, c))]) (st' := [(2, 35), (0, c), (0, used), (2, 72)]) rfl ?_
                    refine jget hF 13 58 0 58 rfl (by decide) (by decide) rfl wd_1521 (by decide +kernel) (by exact hS.k35) ?_
                    rw [show (set2 m_19 71 used ((m_19 35 59) + k)) 35 58 = m_19 35 58 from (s2_a (by decide))]
                    refine jicmp_ne hF (off := 8) 235 (by decide +kernel) (by decide) (by omega) (by omega) (fun h => absurd h (by omega)) (fun _ => ?_)
                    refine jblk hF [(.bipush 9, 2)] (by decide +kernel) (pc' := 232) (lo' := [(7, (0, (m2 35 58) + 1)), (0, (2, 35)), (1, (0, i)), (2, (0, used)), (3, (0, k)), (4, (1, mem 70 k)), (6, (0, c))]) (st' := [(0, 9), (0, used), (2, 72)]) rfl ?_
                    refine jgoto hF (off := 5) 237 (by decide +kernel) (by decide) ?_
                    have hCo : 9 = coC (mem 35 58) c := by unfold coC; first | exact (if_pos (by omega)).symm | exact (if_neg (by omega)).symm
                    refine jiast hF (by decide +kernel) (by decide) (by exact hS.k72) (by omega) (by have := hS.l72; omega) ?_
                    refine jblk hF [(.aload_n 0, 1)] (by decide +kernel) (pc' := 239) (lo' := [(7, (0, (m2 35 58) + 1)), (0, (2, 35)), (1, (0, i)), (2, (0, used)), (3, (0, k)), (4, (1, mem 70 k)), (6, (0, c))]) (st' := [(2, 35)]) rfl ?_
                    refine jget hF 13 51 2 51 rfl (by decide) (by decide) rfl wd_1514 (by decide +kernel) (by exact hS.k35) ?_
                    rw [SR.r51 (SR.s (SR.s hR_m_19 (Or.inl (by decide))) (Or.inl (by decide)))]
                    refine jblk hF [(.iload_n 2, 1), (.lload 4, 2)] (by decide +kernel) (pc' := 245) (lo' := [(7, (0, (m2 35 58) + 1)), (0, (2, 35)), (1, (0, i)), (2, (0, used)), (3, (0, k)), (4, (1, mem 70 k)), (6, (0, c))]) (st' := [(1, mem 70 k), (0, used), (2, 73)]) rfl ?_
                    refine jlast hF (by decide +kernel) (by decide) (by exact hS.k73) (by omega) (by have := hS.l73; omega) ?_
                    have hfs9 : FS mem (set2 (set2 (set2 m_19 71 used ((m_19 35 59) + k)) 72 used 9) 73 used (mem 70 k)) := ((hfs2.tr (FS.of70 hb9)).tr (FS.s _ _ (by decide))).tr ((FS.s _ _ (by decide)).tr (FS.s _ _ (by decide)))
                    have g57 : (set2 (set2 (set2 m_19 71 used ((m_19 35 59) + k)) 72 used 9) 73 used (mem 70 k)) 35 57 = mem 35 57 := hfs9 35 57 (by decide) (by decide) (by decide) (by decide) (by decide) (by decide) (by decide) (by decide)
                    have g58 : (set2 (set2 (set2 m_19 71 used ((m_19 35 59) + k)) 72 used 9) 73 used (mem 70 k)) 35 58 = mem 35 58 := hfs9 35 58 (by decide) (by decide) (by decide) (by decide) (by decide) (by decide) (by decide) (by decide)
                    have g59 : (set2 (set2 (set2 m_19 71 used ((m_19 35 59) + k)) 72 used 9) 73 used (mem 70 k)) 35 59 = mem 35 59 := hfs9 35 59 (by decide) (by decide) (by decide) (by decide) (by decide) (by decide) (by decide) (by decide)
                    have hrs9 : ∀ x : Int, 0 ≤ x → x < mem 35 57 → (set2 (set2 (set2 m_19 71 used ((m_19 35 59) + k)) 72 used 9) 73 used (mem 70 k)) 70 x = markJ (mem 35 57) rs k (tmC (mem 35 58) c) (-(rs k)) (tmC (mem 35 58) c + 1) x := fun x h1 h2 => by rw [s2_a (by decide), s2_a (by decide), s2_a (by decide), hx9 x, hT, f57, hrk2]; exact markJ_congr hz70b x h1 h2
                    have htr9 : TRY (set2 (set2 (set2 m_19 71 used ((m_19 35 59) + k)) 72 used 9) 73 used (mem 70 k)) 1 (upI tl 0 (mem 35 59 + k)) (upI tc 0 (coC (mem 35 58) c)) (upI ta 0 (rs k)) := by rw [hu]; exact try_up (htr2.of ⟨funext fun j => hb9 71 j (by decide), funext fun j => hb9 72 j (by decide), funext fun j => hb9 73 j (by decide)⟩) (by omega) hCo hrk2
                    have hst9 : SKST (set2 (set2 (set2 m_19 71 used ((m_19 35 59) + k)) 72 used 9) 73 used (mem 70 k)) (foldC FF c.toNat S) := hst2.of (fun a j q1 q2 q3 q4 => by rw [s2_a q4, s2_a q3, s2_a q2, hb9 a j q1])
                    refine jblk hF [(.aload_n 0, 1), (.iload_n 3, 1), (.iconst 1, 1), (.iadd, 1), (.iload_n 2, 1), (.iconst 1, 1), (.iadd, 1)] (by decide +kernel) (pc' := 253) (lo' := [(7, (0, (m2 35 58) + 1)), (0, (2, 35)), (1, (0, i)), (2, (0, used)), (3, (0, k)), (4, (1, mem 70 k)), (6, (0, c))]) (st' := [(0, used + 1), (0, k + 1), (2, 35)]) rfl ?_
                    refine jcallV hF (c_seek1 hG hS (SR.s (SR.s (SR.s hR_m_19 (Or.inl (by decide))) (Or.inl (by decide))) (Or.inl (by decide))) (k + 1) (used + 1) (by exact (markJ (mem 35 57) rs k (tmC (mem 35 58) c) (-(rs k)) (tmC (mem 35 58) c + 1))) (by exact (upI tl 0 (mem 35 59 + k))) (by exact (upI tc 0 (coC (mem 35 58) c))) (by exact (upI ta 0 (rs k))) (by exact (foldC FF c.toNat S)) (by omega) (by first | omega | (rw [g57]; omega) | (rw [g58]; omega) | (rw [g59]; omega)) (by first | omega | (rw [g57]; omega) | (rw [g58]; omega) | (rw [g59]; omega)) (by first | omega | (rw [g57]; omega) | (rw [g58]; omega) | (rw [g59]; omega)) (by first | omega | (rw [g57]; omega) | (rw [g58]; omega) | (rw [g59]; omega)) (by rw [g57]; exact hrs9) (by exact htr9) (by exact hst9) (by exact hsb2)) MW_X12_seek 13 (by decide) (by exact hS.k35) wd_2117 wd_2119 wd_p96 (by decide +kernel) [] rfl rfl (by decide) (Nat.le_of_ble_eq_true rfl) (by decide) (kMV (fun m_22 h_23 => ?_))
                    obtain ⟨hR_m_22, h_23⟩ := h_23
                    obtain ⟨hfs8, hz8, htr8, hst8⟩ := h_23
                    rw [g57] at hz8
                    rw [g57, g58, g59] at hst8
                    have i57 : m_22 35 57 = mem 35 57 := (hfs9.tr hfs8) 35 57 (by decide) (by decide) (by decide) (by decide) (by decide) (by decide) (by decide) (by decide)
                    refine jblk hF [(.aload_n 0, 1), (.iload_n 3, 1), (.iload 7, 2), (.lload 4, 2)] (by decide +kernel) (pc' := 262) (lo' := [(7, (0, (m2 35 58) + 1)), (0, (2, 35)), (1, (0, i)), (2, (0, used)), (3, (0, k)), (4, (1, mem 70 k)), (6, (0, c))]) (st' := [(1, mem 70 k), (0, (m2 35 58) + 1), (0, k), (2, 35)]) rfl ?_
                    refine jcallV hF (c_X12_mark hG hS hR_m_22 k ((m2 35 58) + 1) (mem 70 k) (by omega) (by omega) (by first | omega | (rw [e57]; omega))) MW_X12_mark 13 (by decide) (by exact hS.k35) wd_2121 wd_2123 wd_p97 (by decide +kernel) [] rfl rfl (by decide) (Nat.le_of_ble_eq_true rfl) (by decide) (kMV (fun m_24 h_25 => ?_))
                    obtain ⟨hR_m_24, h_25⟩ := h_25
                    have hfs3 : FS mem m_24 := (hfs9.tr hfs8).tr (FS.of70 h_25.1)
                    have hz3 : ∀ x : Int, 0 ≤ x → x < mem 35 57 → m_24 70 x = rs x := fun x h1 h2 => by rw [h_25.2 x, hT, i57, hrk2, markJ_congr (fun y h1 h2 => (hz8 y h1 h2).trans (hrs9 y h1 h2)) x h1 h2]; exact markJ_back x
                    have htr3 : TRY m_24 0 tl tc ta := (try_dn (u := 0) htr8).of ⟨funext fun j => h_25.1 71 j (by decide), funext fun j => h_25.1 72 j (by decide), funext fun j => h_25.1 73 j (by decide)⟩
                    have hst3 : SKST m_24 (FF c (foldC FF c.toNat S)) := by rw [hFFa]; exact hst8.of (fun a j q1 _ _ _ => h_25.1 a j q1)
                    refine jblk hF [(.iinc 6 1, 3)] (by decide +kernel) (pc' := 268) (lo' := [(6, (0, c + 1)), (7, (0, (m2 35 58) + 1)), (0, (2, 35)), (1, (0, i)), (2, (0, used)), (3, (0, k)), (4, (1, mem 70 k))]) (st' := []) rfl ?_
                    refine jgoto hF (off := (-110)) 158 (by decide +kernel) (by decide) ?_
                    refine jsub [2, 3, 4, 5, 6, 0] rfl ?_
                    refine ih_7 (c + 1) m_24 ?_ ?_ ?_ ?_ ?_ ?_ ?_ ?_
                    · omega
                    · assumption
                    · exact hfs3
                    · exact hz3
                    · exact htr3
                    · rw [foldC_s (by omega)]; exact hst3
                    · rw [foldC_s (by omega), hFFa]; exact hSBF _ _ _ _ _ _ hsb2
                    · omega
            refine jsub [2, 3, 4, 5, 1, 0] rfl ?_
            refine L_8 _ 0 mem ?_ ?_ ?_ ?_ ?_ ?_ ?_ (Nat.lt_succ_self _)
            · omega
            · exact hR
            · exact FS.rf
            · exact hrs
            · exact htr
            · exact hst
            · exact hsb
          · refine jvret hF hr (by decide +kernel) ?_
            exact lMV ⟨hR, by exfalso; omega⟩
        · refine jblk hF [(.aload_n 0, 1)] (by decide +kernel) (pc' := 36) (lo' := [(0, (2, 35)), (1, (0, i)), (2, (0, used)), (3, (0, k))]) (st' := [(2, 35)]) rfl ?_
          refine jget hF 13 55 0 55 rfl (by decide) (by decide) rfl wd_1518 (by decide +kernel) (by exact hS.k35) ?_
          refine jblk hF [(.iconst (-1), 1)] (by decide +kernel) (pc' := 40) (lo' := [(0, (2, 35)), (1, (0, i)), (2, (0, used)), (3, (0, k))]) (st' := [(0, (-1)), (0, mem 35 55)]) rfl ?_
          refine jicmp_eq hF (off := 11) 51 (by decide +kernel) (by decide) (by omega) (by decide) (fun h_26 => ?_) (fun h_26 => ?_)
          · have hkN : k = mem 35 57 := by omega
            refine jblk hF [(.aload_n 0, 1), (.iload_n 2, 1)] (by decide +kernel) (pc' := 53) (lo' := [(0, (2, 35)), (1, (0, i)), (2, (0, used)), (3, (0, k))]) (st' := [(0, used), (2, 35)]) rfl ?_
            refine jput hF 13 55 0 55 rfl (by decide) (by decide) rfl wd_1518 (by decide +kernel) rfl (Or.inl rfl) (by exact hS.k35) (fun h => by cases h) ?_
            refine jblk hF [(.aload_n 0, 1), (.iconst 0, 1)] (by decide +kernel) (pc' := 58) (lo' := [(0, (2, 35)), (1, (0, i)), (2, (0, used)), (3, (0, k))]) (st' := [(0, 0), (2, 35)]) rfl ?_
            refine jput hF 13 56 0 56 rfl (by decide) (by decide) rfl wd_1519 (by decide +kernel) rfl (Or.inl rfl) (by exact hS.k35) (fun h => by cases h) ?_
            refine jblk hF [(.iconst 0, 1), (.istore 4, 2)] (by decide +kernel) (pc' := 64) (lo' := [(4, (0, 0)), (0, (2, 35)), (1, (0, i)), (2, (0, used)), (3, (0, k))]) (st' := []) rfl ?_
            have L_28 : ∀ (fu_29 : Nat) (j : Int) (m1 : Int → Int → Int), (0 ≤ j ∧ j ≤ 0) → (SR m1) → (FS mem m1) → (m1 70 = mem 70 ∧ m1 71 = mem 71 ∧ m1 72 = mem 72 ∧ m1 73 = mem 73) → (m1 35 55 = used ∧ m1 35 56 = 0) → (m1 74 = cpN j tl S.2.2.1 ∧ m1 75 = cpN j tc S.2.2.2.1 ∧ m1 76 = cpN j ta S.2.2.2.2) →  (4 - j).toNat < fu_29 → J z g 8 0 0 (QM z g 0 0 (pMV (fun mem' => SR mem' ∧ (FS mem mem' ∧ (∀ x : Int, 0 ≤ x → x < mem 35 57 → mem' 70 x = mem 70 x) ∧ TRY mem' 0 tl tc ta ∧ SKST mem' (seekF (mem 35 57) (mem 35 58) (mem 35 59) 4 rs i tl tc ta S))) kd ln sz)) 64 [(0, (2, 35)), (1, (0, i)), (2, (0, used)), (3, (0, k)), (4, (0, j))] [] kd ln m1 sz := by
              intro fu_29
              induction fu_29 with
              | zero => intro j m1 _ _ _ _ _ _ hm; omega
              | succ fu_29 ih_27 =>
                intro j m1 hj hR_m1 hfs hz70 hz55 hz74 hm1
                refine jblk hF [(.iload 4, 2), (.iload_n 2, 1)] (by decide +kernel) (pc' := 67) (lo' := [(0, (2, 35)), (1, (0, i)), (2, (0, used)), (3, (0, k)), (4, (0, j))]) (st' := [(0, used), (0, j)]) rfl ?_
                refine jicmp_ge hF (off := 51) 118 (by decide +kernel) (by decide) (by omega) (by omega) (fun h_30 => ?_) (fun h_30 => ?_)
                · refine jblk hF [(.aload_n 0, 1), (.dup, 1)] (by decide +kernel) (pc' := 120) (lo' := [(0, (2, 35)), (1, (0, i)), (2, (0, used)), (3, (0, k)), (4, (0, j))]) (st' := [(2, 35), (2, 35)]) rfl ?_
                  refine jget hF 13 56 0 56 rfl (by decide) (by decide) rfl wd_1519 (by decide +kernel) (by exact hS.k35) ?_
                  refine jblk hF [(.iload_n 2, 1), (.aload_n 0, 1)] (by decide +kernel) (pc' := 125) (lo' := [(0, (2, 35)), (1, (0, i)), (2, (0, used)), (3, (0, k)), (4, (0, j))]) (st' := [(2, 35), (0, used), (0, m1 35 56), (2, 35)]) rfl ?_
                  refine jget hF 13 55 0 55 rfl (by decide) (by decide) rfl wd_1518 (by decide +kernel) (by exact hS.k35) ?_
                  refine jicmp_ne hF (off := 7) 135 (by decide +kernel) (by decide) (by omega) (by omega) (fun h_31 => ?_) (fun h_31 => ?_)
                  · refine jblk hF [(.iconst 0, 1), (.iadd, 1)] (by decide +kernel) (pc' := 137) (lo' := [(0, (2, 35)), (1, (0, i)), (2, (0, used)), (3, (0, k)), (4, (0, j))]) (st' := [(0, (m1 35 56) + 0), (2, 35)]) rfl ?_
                    refine jput hF 13 56 0 56 rfl (by decide) (by decide) rfl wd_1519 (by decide +kernel) rfl (Or.inl rfl) (by exact hS.k35) (fun h => by cases h) ?_
                    refine jvret hF hr (by decide +kernel) ?_
                    exact lMV ⟨(SR.s hR_m1 (Or.inr (by decide))), by have hkN : k = mem 35 57 := (by omega); have hsT : skipN rs i (mem 35 57 - i).toNat = mem 35 57 := (by rw [hsk, hkN]; exact skip_n); rw [seekT (u := 0) (by decide) hsT]; first | exact ⟨hfs.tr (FS.p _ (by decide)), fun x _ _ => congrFun hz70.1 x, htr.of ⟨hz70.2.1, hz70.2.2.1, hz70.2.2.2⟩, fin_new (by omega) (by rw [hz55.1]; exact hu) (by rw [show (0 : Int) = j by omega]; exact hz74) (by omega)⟩ | exact ⟨FS.p _ (by decide), fun x _ _ => rfl, htr, fin_keep (by omega) hst (by first | (rw [if_pos (by omega)]; omega) | (rw [if_neg (by omega)]; omega))⟩ | (exfalso; omega)⟩
                  · refine jblk hF [(.iconst 1, 1)] (by decide +kernel) (pc' := 132) (lo' := [(0, (2, 35)), (1, (0, i)), (2, (0, used)), (3, (0, k)), (4, (0, j))]) (st' := [(0, 1), (0, m1 35 56), (2, 35)]) rfl ?_
                    refine jgoto hF (off := 4) 136 (by decide +kernel) (by decide) ?_
                    refine jblk hF [(.iadd, 1)] (by decide +kernel) (pc' := 137) (lo' := [(0, (2, 35)), (1, (0, i)), (2, (0, used)), (3, (0, k)), (4, (0, j))]) (st' := [(0, (m1 35 56) + 1), (2, 35)]) rfl ?_
                    refine jput hF 13 56 0 56 rfl (by decide) (by decide) rfl wd_1519 (by decide +kernel) rfl (Or.inl rfl) (by exact hS.k35) (fun h => by cases h) ?_
                    refine jvret hF hr (by decide +kernel) ?_
                    exact lMV ⟨(SR.s hR_m1 (Or.inr (by decide))), by have hkN : k = mem 35 57 := (by omega); have hsT : skipN rs i (mem 35 57 - i).toNat = mem 35 57 := (by rw [hsk, hkN]; exact skip_n); rw [seekT (u := 0) (by decide) hsT]; first | exact ⟨hfs.tr (FS.p _ (by decide)), fun x _ _ => congrFun hz70.1 x, htr.of ⟨hz70.2.1, hz70.2.2.1, hz70.2.2.2⟩, fin_new (by omega) (by rw [hz55.1]; exact hu) (by rw [show (0 : Int) = j by omega]; exact hz74) (by omega)⟩ | exact ⟨FS.p _ (by decide), fun x _ _ => rfl, htr, fin_keep (by omega) hst (by first | (rw [if_pos (by omega)]; omega) | (rw [if_neg (by omega)]; omega))⟩ | (exfalso; omega)⟩
                · refine jblk hF [(.aload_n 0, 1)] (by decide +kernel) (pc' := 71) (lo' := [(0, (2, 35)), (1, (0, i)), (2, (0, used)), (3, (0, k)), (4, (0, j))]) (st' := [(2, 35)]) rfl ?_
                  refine jget hF 13 52 2 52 rfl (by decide) (by decide) rfl wd_1515 (by decide +kernel) (by exact hS.k35) ?_
                  rw [SR.r52 hR_m1]
                  refine jblk hF [(.iload 4, 2), (.aload_n 0, 1)] (by decide +kernel) (pc' := 77) (lo' := [(0, (2, 35)), (1, (0, i)), (2, (0, used)), (3, (0, k)), (4, (0, j))]) (st' := [(2, 35), (0, j), (2, 74)]) rfl ?_
                  refine jget hF 13 49 2 49 rfl (by decide) (by decide) rfl wd_1512 (by decide +kernel) (by exact hS.k35) ?_
                  rw [SR.r49 hR_m1]
                  refine jblk hF [(.iload 4, 2)] (by decide +kernel) (pc' := 82) (lo' := [(0, (2, 35)), (1, (0, i)), (2, (0, used)), (3, (0, k)), (4, (0, j))]) (st' := [(0, j), (2, 71), (0, j), (2, 74)]) rfl ?_
                  refine jiald hF (by decide +kernel) (by exact hS.k71) (by omega) (by have := hS.l71; omega) ?_
                  refine jiast hF (by decide +kernel) (by decide) (by exact hS.k74) (by omega) (by have := hS.l74; omega) ?_
                  refine jblk hF [(.aload_n 0, 1)] (by decide +kernel) (pc' := 85) (lo' := [(0, (2, 35)), (1, (0, i)), (2, (0, used)), (3, (0, k)), (4, (0, j))]) (st' := [(2, 35)]) rfl ?_
                  refine jget hF 13 53 2 53 rfl (by decide) (by decide) rfl wd_1516 (by decide +kernel) (by exact hS.k35) ?_
                  rw [SR.r53 (SR.s hR_m1 (Or.inl (by decide)))]
                  refine jblk hF [(.iload 4, 2), (.aload_n 0, 1)] (by decide +kernel) (pc' := 91) (lo' := [(0, (2, 35)), (1, (0, i)), (2, (0, used)), (3, (0, k)), (4, (0, j))]) (st' := [(2, 35), (0, j), (2, 75)]) rfl ?_
                  refine jget hF 13 50 2 50 rfl (by decide) (by decide) rfl wd_1513 (by decide +kernel) (by exact hS.k35) ?_
                  rw [SR.r50 (SR.s hR_m1 (Or.inl (by decide)))]
                  refine jblk hF [(.iload 4, 2)] (by decide +kernel) (pc' := 96) (lo' := [(0, (2, 35)), (1, (0, i)), (2, (0, used)), (3, (0, k)), (4, (0, j))]) (st' := [(0, j), (2, 72), (0, j), (2, 75)]) rfl ?_
                  refine jiald hF (by decide +kernel) (by exact hS.k72) (by omega) (by have := hS.l72; omega) ?_
                  rw [show (set2 m1 74 j (m1 71 j)) 72 j = m1 72 j from (s2_a (by decide))]
                  refine jiast hF (by decide +kernel) (by decide) (by exact hS.k75) (by omega) (by have := hS.l75; omega) ?_
                  refine jblk hF [(.aload_n 0, 1)] (by decide +kernel) (pc' := 99) (lo' := [(0, (2, 35)), (1, (0, i)), (2, (0, used)), (3, (0, k)), (4, (0, j))]) (st' := [(2, 35)]) rfl ?_
                  refine jget hF 13 54 2 54 rfl (by decide) (by decide) rfl wd_1517 (by decide +kernel) (by exact hS.k35) ?_
                  rw [SR.r54 (SR.s (SR.s hR_m1 (Or.inl (by decide))) (Or.inl (by decide)))]
                  refine jblk hF [(.iload 4, 2), (.aload_n 0, 1)] (by decide +kernel) (pc' := 105) (lo' := [(0, (2, 35)), (1, (0, i)), (2, (0, used)), (3, (0, k)), (4, (0, j))]) (st' := [(2, 35), (0, j), (2, 76)]) rfl ?_
                  refine jget hF 13 51 2 51 rfl (by decide) (by decide) rfl wd_1514 (by decide +kernel) (by exact hS.k35) ?_
                  rw [SR.r51 (SR.s (SR.s hR_m1 (Or.inl (by decide))) (Or.inl (by decide)))]
                  refine jblk hF [(.iload 4, 2)] (by decide +kernel) (pc' := 110) (lo' := [(0, (2, 35)), (1, (0, i)), (2, (0, used)), (3, (0, k)), (4, (0, j))]) (st' := [(0, j), (2, 73), (0, j), (2, 76)]) rfl ?_
                  refine jlald hF (by decide +kernel) (by exact hS.k73) (by omega) (by have := hS.l73; omega) ?_
                  rw [show (set2 (set2 m1 74 j (m1 71 j)) 75 j (m1 72 j)) 73 j = m1 73 j from ((s2_a (by decide)).trans (s2_a (by decide)))]
                  refine jlast hF (by decide +kernel) (by decide) (by exact hS.k76) (by omega) (by have := hS.l76; omega) ?_
                  refine jblk hF [(.iinc 4 1, 3)] (by decide +kernel) (pc' := 115) (lo' := [(4, (0, j + 1)), (0, (2, 35)), (1, (0, i)), (2, (0, used)), (3, (0, k))]) (st' := []) rfl ?_
                  refine jgoto hF (off := (-51)) 64 (by decide +kernel) (by decide) ?_
                  refine jsub [1, 2, 3, 4, 0] rfl ?_
                  refine ih_27 (j + 1) (set2 (set2 (set2 m1 74 j (m1 71 j)) 75 j (m1 72 j)) 76 j (m1 73 j)) ?_ ?_ ?_ ?_ ?_ ?_ ?_
                  · omega
                  · exact ((hR_m1.s (Or.inl (by decide))).s (Or.inl (by decide))).s (Or.inl (by decide))
                  · exact ((hfs.tr (FS.s _ _ (by decide))).tr (FS.s _ _ (by decide))).tr (FS.s _ _ (by decide))
                  · exact ⟨hz70.1, hz70.2.1, hz70.2.2.1, hz70.2.2.2⟩
                  · exact hz55
                  · have h9 := htr j (by omega) (by omega); exact cp3 (by omega) hz74 ⟨by rw [hz70.2.1]; exact h9.1, by rw [hz70.2.2.1]; exact h9.2.1, by rw [hz70.2.2.2]; exact h9.2.2⟩
                  · omega
            refine jsub [1, 2, 3, 4, 0] rfl ?_
            refine L_28 _ 0 (set2 (set2 mem 35 55 used) 35 56 0) ?_ ?_ ?_ ?_ ?_ ?_ (Nat.lt_succ_self _)
            · omega
            · exact (hR.s (Or.inr (by decide))).s (Or.inr (by decide))
            · exact (FS.p _ (by decide)).tr (FS.p _ (by decide))
            · exact ⟨rfl, rfl, rfl, rfl⟩
            · exact ⟨by rw [s2_k (by decide), s2_s], by rw [s2_s]⟩
            · exact ⟨cpN_0 hst.2.2.1, cpN_0 hst.2.2.2.1, cpN_0 hst.2.2.2.2⟩
          · refine jblk hF [(.iload_n 2, 1), (.aload_n 0, 1)] (by decide +kernel) (pc' := 45) (lo' := [(0, (2, 35)), (1, (0, i)), (2, (0, used)), (3, (0, k))]) (st' := [(2, 35), (0, used)]) rfl ?_
            refine jget hF 13 55 0 55 rfl (by decide) (by decide) rfl wd_1518 (by decide +kernel) (by exact hS.k35) ?_
            refine jicmp_ge hF (off := 70) 118 (by decide +kernel) (by decide) (by omega) (by omega) (fun h_32 => ?_) (fun h_32 => ?_)
            · refine jblk hF [(.aload_n 0, 1), (.dup, 1)] (by decide +kernel) (pc' := 120) (lo' := [(0, (2, 35)), (1, (0, i)), (2, (0, used)), (3, (0, k))]) (st' := [(2, 35), (2, 35)]) rfl ?_
              refine jget hF 13 56 0 56 rfl (by decide) (by decide) rfl wd_1519 (by decide +kernel) (by exact hS.k35) ?_
              refine jblk hF [(.iload_n 2, 1), (.aload_n 0, 1)] (by decide +kernel) (pc' := 125) (lo' := [(0, (2, 35)), (1, (0, i)), (2, (0, used)), (3, (0, k))]) (st' := [(2, 35), (0, used), (0, mem 35 56), (2, 35)]) rfl ?_
              refine jget hF 13 55 0 55 rfl (by decide) (by decide) rfl wd_1518 (by decide +kernel) (by exact hS.k35) ?_
              refine jicmp_ne hF (off := 7) 135 (by decide +kernel) (by decide) (by omega) (by omega) (fun h_33 => ?_) (fun h_33 => ?_)
              · refine jblk hF [(.iconst 0, 1), (.iadd, 1)] (by decide +kernel) (pc' := 137) (lo' := [(0, (2, 35)), (1, (0, i)), (2, (0, used)), (3, (0, k))]) (st' := [(0, (mem 35 56) + 0), (2, 35)]) rfl ?_
                refine jput hF 13 56 0 56 rfl (by decide) (by decide) rfl wd_1519 (by decide +kernel) rfl (Or.inl rfl) (by exact hS.k35) (fun h => by cases h) ?_
                refine jvret hF hr (by decide +kernel) ?_
                exact lMV ⟨(SR.s hR (Or.inr (by decide))), by have hkN : k = mem 35 57 := (by omega); have hsT : skipN rs i (mem 35 57 - i).toNat = mem 35 57 := (by rw [hsk, hkN]; exact skip_n); rw [seekT (u := 0) (by decide) hsT]; first | exact ⟨hfs.tr (FS.p _ (by decide)), fun x _ _ => congrFun hz70.1 x, htr.of ⟨hz70.2.1, hz70.2.2.1, hz70.2.2.2⟩, fin_new (by omega) (by rw [hz55.1]; exact hu) (by rw [show (0 : Int) = j by omega]; exact hz74) (by omega)⟩ | exact ⟨FS.p _ (by decide), fun x _ _ => rfl, htr, fin_keep (by omega) hst (by first | (rw [if_pos (by omega)]; omega) | (rw [if_neg (by omega)]; omega))⟩ | (exfalso; omega)⟩
              · refine jblk hF [(.iconst 1, 1)] (by decide +kernel) (pc' := 132) (lo' := [(0, (2, 35)), (1, (0, i)), (2, (0, used)), (3, (0, k))]) (st' := [(0, 1), (0, mem 35 56), (2, 35)]) rfl ?_
                refine jgoto hF (off := 4) 136 (by decide +kernel) (by decide) ?_
                refine jblk hF [(.iadd, 1)] (by decide +kernel) (pc' := 137) (lo' := [(0, (2, 35)), (1, (0, i)), (2, (0, used)), (3, (0, k))]) (st' := [(0, (mem 35 56) + 1), (2, 35)]) rfl ?_
                refine jput hF 13 56 0 56 rfl (by decide) (by decide) rfl wd_1519 (by decide +kernel) rfl (Or.inl rfl) (by exact hS.k35) (fun h => by cases h) ?_
                refine jvret hF hr (by decide +kernel) ?_
                exact lMV ⟨(SR.s hR (Or.inr (by decide))), by have hkN : k = mem 35 57 := (by omega); have hsT : skipN rs i (mem 35 57 - i).toNat = mem 35 57 := (by rw [hsk, hkN]; exact skip_n); rw [seekT (u := 0) (by decide) hsT]; first | exact ⟨hfs.tr (FS.p _ (by decide)), fun x _ _ => congrFun hz70.1 x, htr.of ⟨hz70.2.1, hz70.2.2.1, hz70.2.2.2⟩, fin_new (by omega) (by rw [hz55.1]; exact hu) (by rw [show (0 : Int) = j by omega]; exact hz74) (by omega)⟩ | exact ⟨FS.p _ (by decide), fun x _ _ => rfl, htr, fin_keep (by omega) hst (by first | (rw [if_pos (by omega)]; omega) | (rw [if_neg (by omega)]; omega))⟩ | (exfalso; omega)⟩
            · have hkN : k = mem 35 57 := by omega
              refine jblk hF [(.aload_n 0, 1), (.iload_n 2, 1)] (by decide +kernel) (pc' := 53) (lo' := [(0, (2, 35)), (1, (0, i)), (2, (0, used)), (3, (0, k))]) (st' := [(0, used), (2, 35)]) rfl ?_
              refine jput hF 13 55 0 55 rfl (by decide) (by decide) rfl wd_1518 (by decide +kernel) rfl (Or.inl rfl) (by exact hS.k35) (fun h => by cases h) ?_
              refine jblk hF [(.aload_n 0, 1), (.iconst 0, 1)] (by decide +kernel) (pc' := 58) (lo' := [(0, (2, 35)), (1, (0, i)), (2, (0, used)), (3, (0, k))]) (st' := [(0, 0), (2, 35)]) rfl ?_
              refine jput hF 13 56 0 56 rfl (by decide) (by decide) rfl wd_1519 (by decide +kernel) rfl (Or.inl rfl) (by exact hS.k35) (fun h => by cases h) ?_
              refine jblk hF [(.iconst 0, 1), (.istore 4, 2)] (by decide +kernel) (pc' := 64) (lo' := [(4, (0, 0)), (0, (2, 35)), (1, (0, i)), (2, (0, used)), (3, (0, k))]) (st' := []) rfl ?_
              have L_35 : ∀ (fu_36 : Nat) (j : Int) (m1 : Int → Int → Int), (0 ≤ j ∧ j ≤ 0) → (SR m1) → (FS mem m1) → (m1 70 = mem 70 ∧ m1 71 = mem 71 ∧ m1 72 = mem 72 ∧ m1 73 = mem 73) → (m1 35 55 = used ∧ m1 35 56 = 0) → (m1 74 = cpN j tl S.2.2.1 ∧ m1 75 = cpN j tc S.2.2.2.1 ∧ m1 76 = cpN j ta S.2.2.2.2) →  (4 - j).toNat < fu_36 → J z g 8 0 0 (QM z g 0 0 (pMV (fun mem' => SR mem' ∧ (FS mem mem' ∧ (∀ x : Int, 0 ≤ x → x < mem 35 57 → mem' 70 x = mem 70 x) ∧ TRY mem' 0 tl tc ta ∧ SKST mem' (seekF (mem 35 57) (mem 35 58) (mem 35 59) 4 rs i tl tc ta S))) kd ln sz)) 64 [(0, (2, 35)), (1, (0, i)), (2, (0, used)), (3, (0, k)), (4, (0, j))] [] kd ln m1 sz := by
                intro fu_36
                induction fu_36 with
                | zero => intro j m1 _ _ _ _ _ _ hm; omega
                | succ fu_36 ih_34 =>
                  intro j m1 hj hR_m1 hfs hz70 hz55 hz74 hm1
                  refine jblk hF [(.iload 4, 2), (.iload_n 2, 1)] (by decide +kernel) (pc' := 67) (lo' := [(0, (2, 35)), (1, (0, i)), (2, (0, used)), (3, (0, k)), (4, (0, j))]) (st' := [(0, used), (0, j)]) rfl ?_
                  refine jicmp_ge hF (off := 51) 118 (by decide +kernel) (by decide) (by omega) (by omega) (fun h_37 => ?_) (fun h_37 => ?_)
                  · refine jblk hF [(.aload_n 0, 1), (.dup, 1)] (by decide +kernel) (pc' := 120) (lo' := [(0, (2, 35)), (1, (0, i)), (2, (0, used)), (3, (0, k)), (4, (0, j))]) (st' := [(2, 35), (2, 35)]) rfl ?_
                    refine jget hF 13 56 0 56 rfl (by decide) (by decide) rfl wd_1519 (by decide +kernel) (by exact hS.k35) ?_
                    refine jblk hF [(.iload_n 2, 1), (.aload_n 0, 1)] (by decide +kernel) (pc' := 125) (lo' := [(0, (2, 35)), (1, (0, i)), (2, (0, used)), (3, (0, k)), (4, (0, j))]) (st' := [(2, 35), (0, used), (0, m1 35 56), (2, 35)]) rfl ?_
                    refine jget hF 13 55 0 55 rfl (by decide) (by decide) rfl wd_1518 (by decide +kernel) (by exact hS.k35) ?_
                    refine jicmp_ne hF (off := 7) 135 (by decide +kernel) (by decide) (by omega) (by omega) (fun h_38 => ?_) (fun h_38 => ?_)
                    · refine jblk hF [(.iconst 0, 1), (.iadd, 1)] (by decide +kernel) (pc' := 137) (lo' := [(0, (2, 35)), (1, (0, i)), (2, (0, used)), (3, (0, k)), (4, (0, j))]) (st' := [(0, (m1 35 56) + 0), (2, 35)]) rfl ?_
                      refine jput hF 13 56 0 56 rfl (by decide) (by decide) rfl wd_1519 (by decide +kernel) rfl (Or.inl rfl) (by exact hS.k35) (fun h => by cases h) ?_
                      refine jvret hF hr (by decide +kernel) ?_
                      exact lMV ⟨(SR.s hR_m1 (Or.inr (by decide))), by have hkN : k = mem 35 57 := (by omega); have hsT : skipN rs i (mem 35 57 - i).toNat = mem 35 57 := (by rw [hsk, hkN]; exact skip_n); rw [seekT (u := 0) (by decide) hsT]; first | exact ⟨hfs.tr (FS.p _ (by decide)), fun x _ _ => congrFun hz70.1 x, htr.of ⟨hz70.2.1, hz70.2.2.1, hz70.2.2.2⟩, fin_new (by omega) (by rw [hz55.1]; exact hu) (by rw [show (0 : Int) = j by omega]; exact hz74) (by omega)⟩ | exact ⟨FS.p _ (by decide), fun x _ _ => rfl, htr, fin_keep (by omega) hst (by first | (rw [if_pos (by omega)]; omega) | (rw [if_neg (by omega)]; omega))⟩ | (exfalso; omega)⟩
                    · refine jblk hF [(.iconst 1, 1)] (by decide +kernel) (pc' := 132) (lo' := [(0, (2, 35)), (1, (0, i)), (2, (0, used)), (3, (0, k)), (4, (0, j))]) (st' := [(0, 1), (0, m1 35 56), (2, 35)]) rfl ?_
                      refine jgoto hF (off := 4) 136 (by decide +kernel) (by decide) ?_
                      refine jblk hF [(.iadd, 1)] (by decide +kernel) (pc' := 137) (lo' := [(0, (2, 35)), (1, (0, i)), (2, (0, used)), (3, (0, k)), (4, (0, j))]) (st' := [(0, (m1 35 56) + 1), (2, 35)]) rfl ?_
                      refine jput hF 13 56 0 56 rfl (by decide) (by decide) rfl wd_1519 (by decide +kernel) rfl (Or.inl rfl) (by exact hS.k35) (fun h => by cases h) ?_
                      refine jvret hF hr (by decide +kernel) ?_
                      exact lMV ⟨(SR.s hR_m1 (Or.inr (by decide))), by have hkN : k = mem 35 57 := (by omega); have hsT : skipN rs i (mem 35 57 - i).toNat = mem 35 57 := (by rw [hsk, hkN]; exact skip_n); rw [seekT (u := 0) (by decide) hsT]; first | exact ⟨hfs.tr (FS.p _ (by decide)), fun x _ _ => congrFun hz70.1 x, htr.of ⟨hz70.2.1, hz70.2.2.1, hz70.2.2.2⟩, fin_new (by omega) (by rw [hz55.1]; exact hu) (by rw [show (0 : Int) = j by omega]; exact hz74) (by omega)⟩ | exact ⟨FS.p _ (by decide), fun x _ _ => rfl, htr, fin_keep (by omega) hst (by first | (rw [if_pos (by omega)]; omega) | (rw [if_neg (by omega)]; omega))⟩ | (exfalso; omega)⟩
                  · refine jblk hF [(.aload_n 0, 1)] (by decide +kernel) (pc' := 71) (lo' := [(0, (2, 35)), (1, (0, i)), (2, (0, used)), (3, (0, k)), (4, (0, j))]) (st' := [(2, 35)]) rfl ?_
                    refine jget hF 13 52 2 52 rfl (by decide) (by decide) rfl wd_1515 (by decide +kernel) (by exact hS.k35) ?_
                    rw [SR.r52 hR_m1]
                    refine jblk hF [(.iload 4, 2), (.aload_n 0, 1)] (by decide +kernel) (pc' := 77) (lo' := [(0, (2, 35)), (1, (0, i)), (2, (0, used)), (3, (0, k)), (4, (0, j))]) (st' := [(2, 35), (0, j), (2, 74)]) rfl ?_
                    refine jget hF 13 49 2 49 rfl (by decide) (by decide) rfl wd_1512 (by decide +kernel) (by exact hS.k35) ?_
                    rw [SR.r49 hR_m1]
                    refine jblk hF [(.iload 4, 2)] (by decide +kernel) (pc' := 82) (lo' := [(0, (2, 35)), (1, (0, i)), (2, (0, used)), (3, (0, k)), (4, (0, j))]) (st' := [(0, j), (2, 71), (0, j), (2, 74)]) rfl ?_
                    refine jiald hF (by decide +kernel) (by exact hS.k71) (by omega) (by have := hS.l71; omega) ?_
                    refine jiast hF (by decide +kernel) (by decide) (by exact hS.k74) (by omega) (by have := hS.l74; omega) ?_
                    refine jblk hF [(.aload_n 0, 1)] (by decide +kernel) (pc' := 85) (lo' := [(0, (2, 35)), (1, (0, i)), (2, (0, used)), (3, (0, k)), (4, (0, j))]) (st' := [(2, 35)]) rfl ?_
                    refine jget hF 13 53 2 53 rfl (by decide) (by decide) rfl wd_1516 (by decide +kernel) (by exact hS.k35) ?_
                    rw [SR.r53 (SR.s hR_m1 (Or.inl (by decide)))]
                    refine jblk hF [(.iload 4, 2), (.aload_n 0, 1)] (by decide +kernel) (pc' := 91) (lo' := [(0, (2, 35)), (1, (0, i)), (2, (0, used)), (3, (0, k)), (4, (0, j))]) (st' := [(2, 35), (0, j), (2, 75)]) rfl ?_
                    refine jget hF 13 50 2 50 rfl (by decide) (by decide) rfl wd_1513 (by decide +kernel) (by exact hS.k35) ?_
                    rw [SR.r50 (SR.s hR_m1 (Or.inl (by decide)))]
                    refine jblk hF [(.iload 4, 2)] (by decide +kernel) (pc' := 96) (lo' := [(0, (2, 35)), (1, (0, i)), (2, (0, used)), (3, (0, k)), (4, (0, j))]) (st' := [(0, j), (2, 72), (0, j), (2, 75)]) rfl ?_
                    refine jiald hF (by decide +kernel) (by exact hS.k72) (by omega) (by have := hS.l72; omega) ?_
                    rw [show (set2 m1 74 j (m1 71 j)) 72 j = m1 72 j from (s2_a (by decide))]
                    refine jiast hF (by decide +kernel) (by decide) (by exact hS.k75) (by omega) (by have := hS.l75; omega) ?_
                    refine jblk hF [(.aload_n 0, 1)] (by decide +kernel) (pc' := 99) (lo' := [(0, (2, 35)), (1, (0, i)), (2, (0, used)), (3, (0, k)), (4, (0, j))]) (st' := [(2, 35)]) rfl ?_
                    refine jget hF 13 54 2 54 rfl (by decide) (by decide) rfl wd_1517 (by decide +kernel) (by exact hS.k35) ?_
                    rw [SR.r54 (SR.s (SR.s hR_m1 (Or.inl (by decide))) (Or.inl (by decide)))]
                    refine jblk hF [(.iload 4, 2), (.aload_n 0, 1)] (by decide +kernel) (pc' := 105) (lo' := [(0, (2, 35)), (1, (0, i)), (2, (0, used)), (3, (0, k)), (4, (0, j))]) (st' := [(2, 35), (0, j), (2, 76)]) rfl ?_
                    refine jget hF 13 51 2 51 rfl (by decide) (by decide) rfl wd_1514 (by decide +kernel) (by exact hS.k35) ?_
                    rw [SR.r51 (SR.s (SR.s hR_m1 (Or.inl (by decide))) (Or.inl (by decide)))]
                    refine jblk hF [(.iload 4, 2)] (by decide +kernel) (pc' := 110) (lo' := [(0, (2, 35)), (1, (0, i)), (2, (0, used)), (3, (0, k)), (4, (0, j))]) (st' := [(0, j), (2, 73), (0, j), (2, 76)]) rfl ?_
                    refine jlald hF (by decide +kernel) (by exact hS.k73) (by omega) (by have := hS.l73; omega) ?_
                    rw [show (set2 (set2 m1 74 j (m1 71 j)) 75 j (m1 72 j)) 73 j = m1 73 j from ((s2_a (by decide)).trans (s2_a (by decide)))]
                    refine jlast hF (by decide +kernel) (by decide) (by exact hS.k76) (by omega) (by have := hS.l76; omega) ?_
                    refine jblk hF [(.iinc 4 1, 3)] (by decide +kernel) (pc' := 115) (lo' := [(4, (0, j + 1)), (0, (2, 35)), (1, (0, i)), (2, (0, used)), (3, (0, k))]) (st' := []) rfl ?_
                    refine jgoto hF (off := (-51)) 64 (by decide +kernel) (by decide) ?_
                    refine jsub [1, 2, 3, 4, 0] rfl ?_
                    refine ih_34 (j + 1) (set2 (set2 (set2 m1 74 j (m1 71 j)) 75 j (m1 72 j)) 76 j (m1 73 j)) ?_ ?_ ?_ ?_ ?_ ?_ ?_
                    · omega
                    · exact ((hR_m1.s (Or.inl (by decide))).s (Or.inl (by decide))).s (Or.inl (by decide))
                    · exact ((hfs.tr (FS.s _ _ (by decide))).tr (FS.s _ _ (by decide))).tr (FS.s _ _ (by decide))
                    · exact ⟨hz70.1, hz70.2.1, hz70.2.2.1, hz70.2.2.2⟩
                    · exact hz55
                    · have h9 := htr j (by omega) (by omega); exact cp3 (by omega) hz74 ⟨by rw [hz70.2.1]; exact h9.1, by rw [hz70.2.2.1]; exact h9.2.1, by rw [hz70.2.2.2]; exact h9.2.2⟩
                    · omega
              refine jsub [1, 2, 3, 4, 0] rfl ?_
              refine L_35 _ 0 (set2 (set2 mem 35 55 used) 35 56 0) ?_ ?_ ?_ ?_ ?_ ?_ (Nat.lt_succ_self _)
              · omega
              · exact (hR.s (Or.inr (by decide))).s (Or.inr (by decide))
              · exact (FS.p _ (by decide)).tr (FS.p _ (by decide))
              · exact ⟨rfl, rfl, rfl, rfl⟩
              · exact ⟨by rw [s2_k (by decide), s2_s], by rw [s2_s]⟩
              · exact ⟨cpN_0 hst.2.2.1, cpN_0 hst.2.2.2.1, cpN_0 hst.2.2.2.2⟩
      · refine jblk hF [(.aload_n 0, 1)] (by decide +kernel) (pc' := 11) (lo' := [(0, (2, 35)), (1, (0, i)), (2, (0, used)), (3, (0, k))]) (st' := [(2, 35)]) rfl ?_
        refine jget hF 13 48 2 48 rfl (by decide) (by decide) rfl wd_1511 (by decide +kernel) (by exact hS.k35) ?_
        rw [SR.r48 hR]
        refine jblk hF [(.iload_n 3, 1)] (by decide +kernel) (pc' := 15) (lo' := [(0, (2, 35)), (1, (0, i)), (2, (0, used)), (3, (0, k))]) (st' := [(0, k), (2, 70)]) rfl ?_
        refine jlald hF (by decide +kernel) (by exact hS.k70) (by omega) (by have := hS.l70; omega) ?_
        refine jlconst hF (n := 0) 0 rfl (by decide +kernel) ?_
        refine jlcmpW_ne hF (off := 9) 27 (by decide +kernel) (by decide +kernel) (by decide) (fun h_39 => ?_) (fun h_39 => ?_)
        · refine jblk hF [(.iload_n 3, 1), (.aload_n 0, 1)] (by decide +kernel) (pc' := 29) (lo' := [(0, (2, 35)), (1, (0, i)), (2, (0, used)), (3, (0, k))]) (st' := [(2, 35), (0, k)]) rfl ?_
          refine jget hF 13 57 0 57 rfl (by decide) (by decide) rfl wd_1520 (by decide +kernel) (by exact hS.k35) ?_
          refine jicmp_ne hF (off := 109) 141 (by decide +kernel) (by decide) (by omega) (by omega) (fun h_40 => ?_) (fun h_40 => ?_)
          · refine jblk hF [(.iload_n 2, 1), (.iconst 4, 1)] (by decide +kernel) (pc' := 143) (lo' := [(0, (2, 35)), (1, (0, i)), (2, (0, used)), (3, (0, k))]) (st' := [(0, 4), (0, used)]) rfl ?_
            refine jicmp_ne hF (off := 4) 147 (by decide +kernel) (by decide) (by omega) (by decide) (fun h_41 => ?_) (fun h_41 => ?_)
            · have hrk2 := hrk (by omega)
              have hske : skipN rs i (mem 35 57 - i).toNat = k := by rw [hsk]; exact skip_e (by omega) (by rw [← hrk2]; first | assumption | omega)
              obtain ⟨FF, hFF⟩ : ∃ FF : Int → ST → ST, FF = (fun c => seekF (mem 35 57) (mem 35 58) (mem 35 59) 3 (markJ (mem 35 57) rs k (tmC (mem 35 58) c) (-(rs k)) (tmC (mem 35 58) c + 1)) (k + 1) (upI tl 0 (mem 35 59 + k)) (upI tc 0 (coC (mem 35 58) c)) (upI ta 0 (rs k))) := ⟨_, rfl⟩
              have hFFa := fun (c9 : Int) (S9 : ST) => congrFun (congrFun hFF c9) S9
              have hSBF := fun (rs : Int → Int) (i : Int) (tl tc ta : Int → Int) (S : ST) (h : SB S) => (seekF_bd (N := mem 35 57) (o := mem 35 58) (h := mem 35 59) 3 (by decide) rs i tl tc ta S h).1
              refine jblk hF [(.aload_n 0, 1)] (by decide +kernel) (pc' := 148) (lo' := [(0, (2, 35)), (1, (0, i)), (2, (0, used)), (3, (0, k))]) (st' := [(2, 35)]) rfl ?_
              refine jget hF 13 48 2 48 rfl (by decide) (by decide) rfl wd_1511 (by decide +kernel) (by exact hS.k35) ?_
              rw [SR.r48 hR]
              refine jblk hF [(.iload_n 3, 1)] (by decide +kernel) (pc' := 152) (lo' := [(0, (2, 35)), (1, (0, i)), (2, (0, used)), (3, (0, k))]) (st' := [(0, k), (2, 70)]) rfl ?_
              refine jlald hF (by decide +kernel) (by exact hS.k70) (by omega) (by have := hS.l70; omega) ?_
              refine jblk hF [(.lstore 4, 2), (.iconst 0, 1), (.istore 6, 2)] (by decide +kernel) (pc' := 158) (lo' := [(6, (0, 0)), (4, (1, mem 70 k)), (0, (2, 35)), (1, (0, i)), (2, (0, used)), (3, (0, k))]) (st' := []) rfl ?_
              have L_43 : ∀ (fu_44 : Nat) (c : Int) (m2 : Int → Int → Int), (0 ≤ c ∧ c ≤ mem 35 58 + 1) → (SR m2) → (FS mem m2) → (∀ x : Int, 0 ≤ x → x < mem 35 57 → m2 70 x = rs x) → (TRY m2 0 tl tc ta) → (SKST m2 (foldC FF c.toNat S)) → (SB (foldC FF c.toNat S)) →  (mem 35 58 + 1 - c).toNat < fu_44 → J z g 8 0 0 (QM z g 0 0 (pMV (fun mem' => SR mem' ∧ (FS mem mem' ∧ (∀ x : Int, 0 ≤ x → x < mem 35 57 → mem' 70 x = mem 70 x) ∧ TRY mem' 0 tl tc ta ∧ SKST mem' (seekF (mem 35 57) (mem 35 58) (mem 35 59) 4 rs i tl tc ta S))) kd ln sz)) 158 [(0, (2, 35)), (1, (0, i)), (2, (0, used)), (3, (0, k)), (4, (1, mem 70 k)), (6, (0, c))] [] kd ln m2 sz := by
                intro fu_44
                induction fu_44 with
                | zero => intro c m2 _ _ _ _ _ _ _ hm; omega
                | succ fu_44 ih_42 =>
                  intro c m2 hc hR_m2 hfs2 hz70b htr2 hst2 hsb2 hm2
                  have f57 : m2 35 57 = mem 35 57 := hfs2 35 57 (by decide) (by decide) (by decide) (by decide) (by decide) (by decide) (by decide) (by decide)
                  have f58 : m2 35 58 = mem 35 58 := hfs2 35 58 (by decide) (by decide) (by decide) (by decide) (by decide) (by decide) (by decide) (by decide)
                  have f59 : m2 35 59 = mem 35 59 := hfs2 35 59 (by decide) (by decide) (by decide) (by decide) (by decide) (by decide) (by decide) (by decide)
                  refine jblk hF [(.iload 6, 2), (.aload_n 0, 1)] (by decide +kernel) (pc' := 161) (lo' := [(0, (2, 35)), (1, (0, i)), (2, (0, used)), (3, (0, k)), (4, (1, mem 70 k)), (6, (0, c))]) (st' := [(2, 35), (0, c)]) rfl ?_
                  refine jget hF 13 58 0 58 rfl (by decide) (by decide) rfl wd_1521 (by decide +kernel) (by exact hS.k35) ?_
                  refine jicmp_gt hF (off := 107) 271 (by decide +kernel) (by decide) (by omega) (by omega) (fun h_45 => ?_) (fun h_45 => ?_)
                  · refine jvret hF hr (by decide +kernel) ?_
                    exact lMV ⟨hR_m2, by exact ⟨hfs2, fun x h1 h2 => by rw [hz70b x h1 h2, hrs x h1 h2], htr2, by rw [show (4 : Nat) = 3 + 1 from rfl, seekL (u := 0) (by decide) hske (by omega), ← hFF, show (mem 35 58 + 1).toNat = c.toNat by omega]; exact hst2⟩⟩
                  · refine jblk hF [(.iload 6, 2), (.aload_n 0, 1)] (by decide +kernel) (pc' := 170) (lo' := [(0, (2, 35)), (1, (0, i)), (2, (0, used)), (3, (0, k)), (4, (1, mem 70 k)), (6, (0, c))]) (st' := [(2, 35), (0, c)]) rfl ?_
                    refine jget hF 13 58 0 58 rfl (by decide) (by decide) rfl wd_1521 (by decide +kernel) (by exact hS.k35) ?_
                    refine jicmp_ne hF (off := 12) 185 (by decide +kernel) (by decide) (by omega) (by omega) (fun h_46 => ?_) (fun h_46 => ?_)
                    · refine jblk hF [(.aload_n 0, 1)] (by decide +kernel) (pc' := 186) (lo' := [(0, (2, 35)), (1, (0, i)), (2, (0, used)), (3, (0, k)), (4, (1, mem 70 k)), (6, (0, c))]) (st' := [(2, 35)]) rfl ?_
                      refine jget hF 13 58 0 58 rfl (by decide) (by decide) rfl wd_1521 (by decide +kernel) (by exact hS.k35) ?_
                      refine jblk hF [(.iload 6, 2), (.isub, 1), (.istore 7, 2)] (by decide +kernel) (pc' := 194) (lo' := [(7, (0, (m2 35 58) - c)), (0, (2, 35)), (1, (0, i)), (2, (0, used)), (3, (0, k)), (4, (1, mem 70 k)), (6, (0, c))]) (st' := []) rfl ?_
                      have hT : ((m2 35 58) - c) = tmC (mem 35 58) c := by unfold tmC; first | (rw [if_pos (by omega)]; omega) | (rw [if_neg (by omega)]; omega)
                      have hT5 : 0 ≤ tmC (mem 35 58) c ∧ tmC (mem 35 58) c ≤ 5 := by omega
                      refine jblk hF [(.aload_n 0, 1), (.iload_n 3, 1), (.iload 7, 2), (.lload 4, 2), (.lneg, 1)] (by decide +kernel) (pc' := 201) (lo' := [(7, (0, (m2 35 58) - c)), (0, (2, 35)), (1, (0, i)), (2, (0, used)), (3, (0, k)), (4, (1, mem 70 k)), (6, (0, c))]) (st' := [(1, -(mem 70 k)), (0, (m2 35 58) - c), (0, k), (2, 35)]) rfl ?_
                      refine jcallV hF (c_X12_mark hG hS hR_m2 k ((m2 35 58) - c) (-(mem 70 k)) (by omega) (by omega) (by first | omega | (rw [e57]; omega))) MW_X12_mark 13 (by decide) (by exact hS.k35) wd_2121 wd_2123 wd_p97 (by decide +kernel) [] rfl rfl (by decide) (Nat.le_of_ble_eq_true rfl) (by decide) (kMV (fun m_47 h_48 => ?_))
                      obtain ⟨hR_m_47, h_48⟩ := h_48
                      have hb9 := h_48.1
                      have hx9 := h_48.2
                      have j58 := hb9 35 58 (by decide)
                      have j59 := hb9 35 59 (by decide)
                      refine jblk hF [(.aload_n 0, 1)] (by decide +kernel) (pc' := 205) (lo' := [(7, (0, (m2 35 58) - c)), (0, (2, 35)), (1, (0, i)), (2, (0, used)), (3, (0, k)), (4, (1, mem 70 k)), (6, (0, c))]) (st' := [(2, 35)]) rfl ?_
                      refine jget hF 13 49 2 49 rfl (by decide) (by decide) rfl wd_1512 (by decide +kernel) (by exact hS.k35) ?_
                      rw [SR.r49 hR_m_47]
                      refine jblk hF [(.iload_n 2, 1), (.aload_n 0, 1)] (by decide +kernel) (pc' := 210) (lo' := [(7, (0, (m2 35 58) - c)), (0, (2, 35)), (1, (0, i)), (2, (0, used)), (3, (0, k)), (4, (1, mem 70 k)), (6, (0, c))]) (st' := [(2, 35), (0, used), (2, 71)]) rfl ?_
                      refine jget hF 13 59 0 59 rfl (by decide) (by decide) rfl wd_1522 (by decide +kernel) (by exact hS.k35) ?_
                      refine jblk hF [(.iload_n 3, 1), (.iadd, 1)] (by decide +kernel) (pc' := 215) (lo' := [(7, (0, (m2 35 58) - c)), (0, (2, 35)), (1, (0, i)), (2, (0, used)), (3, (0, k)), (4, (1, mem 70 k)), (6, (0, c))]) (st' := [(0, (m_47 35 59) + k), (0, used), (2, 71)]) rfl ?_
                      refine jiast hF (by decide +kernel) (by decide) (by exact hS.k71) (by omega) (by have := hS.l71; omega) ?_
                      refine jblk hF [(.aload_n 0, 1)] (by decide +kernel) (pc' := 217) (lo' := [(7, (0, (m2 35 58) - c)), (0, (2, 35)), (1, (0, i)), (2, (0, used)), (3, (0, k)), (4, (1, mem 70 k)), (6, (0, c))]) (st' := [(2, 35)]) rfl ?_
                      refine jget hF 13 50 2 50 rfl (by decide) (by decide) rfl wd_1513 (by decide +kernel) (by exact hS.k35) ?_
                      rw [SR.r50 (SR.s hR_m_47 (Or.inl (by decide)))]
                      refine jblk hF [(.iload_n 2, 1), (.iload 6, 2), (.aload_n 0, 1)] (by decide +kernel) (pc' := 224) (lo' := [(7, (0, (m2 35 58) - c)), (0, (2, 35)), (1, (0, i)), (2, (0, used)), (3, (0, k)), (4, (1, mem 70 k)), (6, (0, c))]) (st' := [(2, 35), (0, c), (0, used), (2, 72)]) rfl ?_
                      refine jget hF 13 58 0 58 rfl (by decide) (by decide) rfl wd_1521 (by decide +kernel) (by exact hS.k35) ?_
                      rw [show (set2 m_47 71 used ((m_47 35 59) + k)) 35 58 = m_47 35 58 from (s2_a (by decide))]
                      refine jicmp_ne hF (off := 8) 235 (by decide +kernel) (by decide) (by omega) (by omega) (fun _ => ?_) (fun h => absurd h (by omega))
                      refine jblk hF [(.iload 6, 2)] (by decide +kernel) (pc' := 237) (lo' := [(7, (0, (m2 35 58) - c)), (0, (2, 35)), (1, (0, i)), (2, (0, used)), (3, (0, k)), (4, (1, mem 70 k)), (6, (0, c))]) (st' := [(0, c), (0, used), (2, 72)]) rfl ?_
                      have hCo : c = coC (mem 35 58) c := by unfold coC; first | exact (if_pos (by omega)).symm | exact (if_neg (by omega)).symm
                      refine jiast hF (by decide +kernel) (by decide) (by exact hS.k72) (by omega) (by have := hS.l72; omega) ?_
                      refine jblk hF [(.aload_n 0, 1)] (by decide +kernel) (pc' := 239) (lo' := [(7, (0, (m2 35 58) - c)), (0, (2, 35)), (1, (0, i)), (2, (0, used)), (3, (0, k)), (4, (1, mem 70 k)), (6, (0, c))]) (st' := [(2, 35)]) rfl ?_
                      refine jget hF 13 51 2 51 rfl (by decide) (by decide) rfl wd_1514 (by decide +kernel) (by exact hS.k35) ?_
                      rw [SR.r51 (SR.s (SR.s hR_m_47 (Or.inl (by decide))) (Or.inl (by decide)))]
                      refine jblk hF [(.iload_n 2, 1), (.lload 4, 2)] (by decide +kernel) (pc' := 245) (lo' := [(7, (0, (m2 35 58) - c)), (0, (2, 35)), (1, (0, i)), (2, (0, used)), (3, (0, k)), (4, (1, mem 70 k)), (6, (0, c))]) (st' := [(1, mem 70 k), (0, used), (2, 73)]) rfl ?_
                      refine jlast hF (by decide +kernel) (by decide) (by exact hS.k73) (by omega) (by have := hS.l73; omega) ?_
                      have hfs9 : FS mem (set2 (set2 (set2 m_47 71 used ((m_47 35 59) + k)) 72 used c) 73 used (mem 70 k)) := ((hfs2.tr (FS.of70 hb9)).tr (FS.s _ _ (by decide))).tr ((FS.s _ _ (by decide)).tr (FS.s _ _ (by decide)))
                      have g57 : (set2 (set2 (set2 m_47 71 used ((m_47 35 59) + k)) 72 used c) 73 used (mem 70 k)) 35 57 = mem 35 57 := hfs9 35 57 (by decide) (by decide) (by decide) (by decide) (by decide) (by decide) (by decide) (by decide)
                      have g58 : (set2 (set2 (set2 m_47 71 used ((m_47 35 59) + k)) 72 used c) 73 used (mem 70 k)) 35 58 = mem 35 58 := hfs9 35 58 (by decide) (by decide) (by decide) (by decide) (by decide) (by decide) (by decide) (by decide)
                      have g59 : (set2 (set2 (set2 m_47 71 used ((m_47 35 59) + k)) 72 used c) 73 used (mem 70 k)) 35 59 = mem 35 59 := hfs9 35 59 (by decide) (by decide) (by decide) (by decide) (by decide) (by decide) (by decide) (by decide)
                      have hrs9 : ∀ x : Int, 0 ≤ x → x < mem 35 57 → (set2 (set2 (set2 m_47 71 used ((m_47 35 59) + k)) 72 used c) 73 used (mem 70 k)) 70 x = markJ (mem 35 57) rs k (tmC (mem 35 58) c) (-(rs k)) (tmC (mem 35 58) c + 1) x := fun x h1 h2 => by rw [s2_a (by decide), s2_a (by decide), s2_a (by decide), hx9 x, hT, f57, hrk2]; exact markJ_congr hz70b x h1 h2
                      have htr9 : TRY (set2 (set2 (set2 m_47 71 used ((m_47 35 59) + k)) 72 used c) 73 used (mem 70 k)) 1 (upI tl 0 (mem 35 59 + k)) (upI tc 0 (coC (mem 35 58) c)) (upI ta 0 (rs k)) := by rw [hu]; exact try_up (htr2.of ⟨funext fun j => hb9 71 j (by decide), funext fun j => hb9 72 j (by decide), funext fun j => hb9 73 j (by decide)⟩) (by omega) hCo hrk2
                      have hst9 : SKST (set2 (set2 (set2 m_47 71 used ((m_47 35 59) + k)) 72 used c) 73 used (mem 70 k)) (foldC FF c.toNat S) := hst2.of (fun a j q1 q2 q3 q4 => by rw [s2_a q4, s2_a q3, s2_a q2, hb9 a j q1])
                      refine jblk hF [(.aload_n 0, 1), (.iload_n 3, 1), (.iconst 1, 1), (.iadd, 1), (.iload_n 2, 1), (.iconst 1, 1), (.iadd, 1)] (by decide +kernel) (pc' := 253) (lo' := [(7, (0, (m2 35 58) - c)), (0, (2, 35)), (1, (0, i)), (2, (0, used)), (3, (0, k)), (4, (1, mem 70 k)), (6, (0, c))]) (st' := [(0, used + 1), (0, k + 1), (2, 35)]) rfl ?_
                      refine jcallV hF (c_seek1 hG hS (SR.s (SR.s (SR.s hR_m_47 (Or.inl (by decide))) (Or.inl (by decide))) (Or.inl (by decide))) (k + 1) (used + 1) (by exact (markJ (mem 35 57) rs k (tmC (mem 35 58) c) (-(rs k)) (tmC (mem 35 58) c + 1))) (by exact (upI tl 0 (mem 35 59 + k))) (by exact (upI tc 0 (coC (mem 35 58) c))) (by exact (upI ta 0 (rs k))) (by exact (foldC FF c.toNat S)) (by omega) (by first | omega | (rw [g57]; omega) | (rw [g58]; omega) | (rw [g59]; omega)) (by first | omega | (rw [g57]; omega) | (rw [g58]; omega) | (rw [g59]; omega)) (by first | omega | (rw [g57]; omega) | (rw [g58]; omega) | (rw [g59]; omega)) (by first | omega | (rw [g57]; omega) | (rw [g58]; omega) | (rw [g59]; omega)) (by rw [g57]; exact hrs9) (by exact htr9) (by exact hst9) (by exact hsb2)) MW_X12_seek 13 (by decide) (by exact hS.k35) wd_2117 wd_2119 wd_p96 (by decide +kernel) [] rfl rfl (by decide) (Nat.le_of_ble_eq_true rfl) (by decide) (kMV (fun m_50 h_51 => ?_))
                      obtain ⟨hR_m_50, h_51⟩ := h_51
                      obtain ⟨hfs8, hz8, htr8, hst8⟩ := h_51
                      rw [g57] at hz8
                      rw [g57, g58, g59] at hst8
                      have i57 : m_50 35 57 = mem 35 57 := (hfs9.tr hfs8) 35 57 (by decide) (by decide) (by decide) (by decide) (by decide) (by decide) (by decide) (by decide)
                      refine jblk hF [(.aload_n 0, 1), (.iload_n 3, 1), (.iload 7, 2), (.lload 4, 2)] (by decide +kernel) (pc' := 262) (lo' := [(7, (0, (m2 35 58) - c)), (0, (2, 35)), (1, (0, i)), (2, (0, used)), (3, (0, k)), (4, (1, mem 70 k)), (6, (0, c))]) (st' := [(1, mem 70 k), (0, (m2 35 58) - c), (0, k), (2, 35)]) rfl ?_
                      refine jcallV hF (c_X12_mark hG hS hR_m_50 k ((m2 35 58) - c) (mem 70 k) (by omega) (by omega) (by first | omega | (rw [e57]; omega))) MW_X12_mark 13 (by decide) (by exact hS.k35) wd_2121 wd_2123 wd_p97 (by decide +kernel) [] rfl rfl (by decide) (Nat.le_of_ble_eq_true rfl) (by decide) (kMV (fun m_52 h_53 => ?_))
                      obtain ⟨hR_m_52, h_53⟩ := h_53
                      have hfs3 : FS mem m_52 := (hfs9.tr hfs8).tr (FS.of70 h_53.1)
                      have hz3 : ∀ x : Int, 0 ≤ x → x < mem 35 57 → m_52 70 x = rs x := fun x h1 h2 => by rw [h_53.2 x, hT, i57, hrk2, markJ_congr (fun y h1 h2 => (hz8 y h1 h2).trans (hrs9 y h1 h2)) x h1 h2]; exact markJ_back x
                      have htr3 : TRY m_52 0 tl tc ta := (try_dn (u := 0) htr8).of ⟨funext fun j => h_53.1 71 j (by decide), funext fun j => h_53.1 72 j (by decide), funext fun j => h_53.1 73 j (by decide)⟩
                      have hst3 : SKST m_52 (FF c (foldC FF c.toNat S)) := by rw [hFFa]; exact hst8.of (fun a j q1 _ _ _ => h_53.1 a j q1)
                      refine jblk hF [(.iinc 6 1, 3)] (by decide +kernel) (pc' := 268) (lo' := [(6, (0, c + 1)), (7, (0, (m2 35 58) - c)), (0, (2, 35)), (1, (0, i)), (2, (0, used)), (3, (0, k)), (4, (1, mem 70 k))]) (st' := []) rfl ?_
                      refine jgoto hF (off := (-110)) 158 (by decide +kernel) (by decide) ?_
                      refine jsub [2, 3, 4, 5, 6, 0] rfl ?_
                      refine ih_42 (c + 1) m_52 ?_ ?_ ?_ ?_ ?_ ?_ ?_ ?_
                      · omega
                      · assumption
                      · exact hfs3
                      · exact hz3
                      · exact htr3
                      · rw [foldC_s (by omega)]; exact hst3
                      · rw [foldC_s (by omega), hFFa]; exact hSBF _ _ _ _ _ _ hsb2
                      · omega
                    · refine jblk hF [(.aload_n 0, 1)] (by decide +kernel) (pc' := 177) (lo' := [(0, (2, 35)), (1, (0, i)), (2, (0, used)), (3, (0, k)), (4, (1, mem 70 k)), (6, (0, c))]) (st' := [(2, 35)]) rfl ?_
                      refine jget hF 13 58 0 58 rfl (by decide) (by decide) rfl wd_1521 (by decide +kernel) (by exact hS.k35) ?_
                      refine jblk hF [(.iconst 1, 1), (.iadd, 1)] (by decide +kernel) (pc' := 182) (lo' := [(0, (2, 35)), (1, (0, i)), (2, (0, used)), (3, (0, k)), (4, (1, mem 70 k)), (6, (0, c))]) (st' := [(0, (m2 35 58) + 1)]) rfl ?_
                      refine jgoto hF (off := 10) 192 (by decide +kernel) (by decide) ?_
                      refine jblk hF [(.istore 7, 2)] (by decide +kernel) (pc' := 194) (lo' := [(7, (0, (m2 35 58) + 1)), (0, (2, 35)), (1, (0, i)), (2, (0, used)), (3, (0, k)), (4, (1, mem 70 k)), (6, (0, c))]) (st' := []) rfl ?_
                      have hT : ((m2 35 58) + 1) = tmC (mem 35 58) c := by unfold tmC; first | (rw [if_pos (by omega)]; omega) | (rw [if_neg (by omega)]; omega)
                      have hT5 : 0 ≤ tmC (mem 35 58) c ∧ tmC (mem 35 58) c ≤ 5 := by omega
                      refine jblk hF [(.aload_n 0, 1), (.iload_n 3, 1), (.iload 7, 2), (.lload 4, 2), (.lneg, 1)] (by decide +kernel) (pc' := 201) (lo' := [(7, (0, (m2 35 58) + 1)), (0, (2, 35)), (1, (0, i)), (2, (0, used)), (3, (0, k)), (4, (1, mem 70 k)), (6, (0, c))]) (st' := [(1, -(mem 70 k)), (0, (m2 35 58) + 1), (0, k), (2, 35)]) rfl ?_
                      refine jcallV hF (c_X12_mark hG hS hR_m2 k ((m2 35 58) + 1) (-(mem 70 k)) (by omega) (by omega) (by first | omega | (rw [e57]; omega))) MW_X12_mark 13 (by decide) (by exact hS.k35) wd_2121 wd_2123 wd_p97 (by decide +kernel) [] rfl rfl (by decide) (Nat.le_of_ble_eq_true rfl) (by decide) (kMV (fun m_54 h_55 => ?_))
                      obtain ⟨hR_m_54, h_55⟩ := h_55
                      have hb9 := h_55.1
                      have hx9 := h_55.2
                      have j58 := hb9 35 58 (by decide)
                      have j59 := hb9 35 59 (by decide)
                      refine jblk hF [(.aload_n 0, 1)] (by decide +kernel) (pc' := 205) (lo' := [(7, (0, (m2 35 58) + 1)), (0, (2, 35)), (1, (0, i)), (2, (0, used)), (3, (0, k)), (4, (1, mem 70 k)), (6, (0, c))]) (st' := [(2, 35)]) rfl ?_
                      refine jget hF 13 49 2 49 rfl (by decide) (by decide) rfl wd_1512 (by decide +kernel) (by exact hS.k35) ?_
                      rw [SR.r49 hR_m_54]
                      refine jblk hF [(.iload_n 2, 1), (.aload_n 0, 1)] (by decide +kernel) (pc' := 210) (lo' := [(7, (0, (m2 35 58) + 1)), (0, (2, 35)), (1, (0, i)), (2, (0, used)), (3, (0, k)), (4, (1, mem 70 k)), (6, (0, c))]) (st' := [(2, 35), (0, used), (2, 71)]) rfl ?_
                      refine jget hF 13 59 0 59 rfl (by decide) (by decide) rfl wd_1522 (by decide +kernel) (by exact hS.k35) ?_
                      refine jblk hF [(.iload_n 3, 1), (.iadd, 1)] (by decide +kernel) (pc' := 215) (lo' := [(7, (0, (m2 35 58) + 1)), (0, (2, 35)), (1, (0, i)), (2, (0, used)), (3, (0, k)), (4, (1, mem 70 k)), (6, (0, c))]) (st' := [(0, (m_54 35 59) + k), (0, used), (2, 71)]) rfl ?_
                      refine jiast hF (by decide +kernel) (by decide) (by exact hS.k71) (by omega) (by have := hS.l71; omega) ?_
                      refine jblk hF [(.aload_n 0, 1)] (by decide +kernel) (pc' := 217) (lo' := [(7, (0, (m2 35 58) + 1)), (0, (2, 35)), (1, (0, i)), (2, (0, used)), (3, (0, k)), (4, (1, mem 70 k)), (6, (0, c))]) (st' := [(2, 35)]) rfl ?_
                      refine jget hF 13 50 2 50 rfl (by decide) (by decide) rfl wd_1513 (by decide +kernel) (by exact hS.k35) ?_
                      rw [SR.r50 (SR.s hR_m_54 (Or.inl (by decide)))]
                      refine jblk hF [(.iload_n 2, 1), (.iload 6, 2), (.aload_n 0, 1)] (by decide +kernel) (pc' := 224) (lo' := [(7, (0, (m2 35 58) + 1)), (0, (2, 35)), (1, (0, i)), (2, (0, used)), (3, (0, k)), (4, (1, mem 70 k)), (6, (0, c))]) (st' := [(2, 35), (0, c), (0, used), (2, 72)]) rfl ?_
                      refine jget hF 13 58 0 58 rfl (by decide) (by decide) rfl wd_1521 (by decide +kernel) (by exact hS.k35) ?_
                      rw [show (set2 m_54 71 used ((m_54 35 59) + k)) 35 58 = m_54 35 58 from (s2_a (by decide))]
                      refine jicmp_ne hF (off := 8) 235 (by decide +kernel) (by decide) (by omega) (by omega) (fun h => absurd h (by omega)) (fun _ => ?_)
                      refine jblk hF [(.bipush 9, 2)] (by decide +kernel) (pc' := 232) (lo' := [(7, (0, (m2 35 58) + 1)), (0, (2, 35)), (1, (0, i)), (2, (0, used)), (3, (0, k)), (4, (1, mem 70 k)), (6, (0, c))]) (st' := [(0, 9), (0, used), (2, 72)]) rfl ?_
                      refine jgoto hF (off := 5) 237 (by decide +kernel) (by decide) ?_
                      have hCo : 9 = coC (mem 35 58) c := by unfold coC; first | exact (if_pos (by omega)).symm | exact (if_neg (by omega)).symm
                      refine jiast hF (by decide +kernel) (by decide) (by exact hS.k72) (by omega) (by have := hS.l72; omega) ?_
                      refine jblk hF [(.aload_n 0, 1)] (by decide +kernel) (pc' := 239) (lo' := [(7, (0, (m2 35 58) + 1)), (0, (2, 35)), (1, (0, i)), (2, (0, used)), (3, (0, k)), (4, (1, mem 70 k)), (6, (0, c))]) (st' := [(2, 35)]) rfl ?_
                      refine jget hF 13 51 2 51 rfl (by decide) (by decide) rfl wd_1514 (by decide +kernel) (by exact hS.k35) ?_
                      rw [SR.r51 (SR.s (SR.s hR_m_54 (Or.inl (by decide))) (Or.inl (by decide)))]
                      refine jblk hF [(.iload_n 2, 1), (.lload 4, 2)] (by decide +kernel) (pc' := 245) (lo' := [(7, (0, (m2 35 58) + 1)), (0, (2, 35)), (1, (0, i)), (2, (0, used)), (3, (0, k)), (4, (1, mem 70 k)), (6, (0, c))]) (st' := [(1, mem 70 k), (0, used), (2, 73)]) rfl ?_
                      refine jlast hF (by decide +kernel) (by decide) (by exact hS.k73) (by omega) (by have := hS.l73; omega) ?_
                      have hfs9 : FS mem (set2 (set2 (set2 m_54 71 used ((m_54 35 59) + k)) 72 used 9) 73 used (mem 70 k)) := ((hfs2.tr (FS.of70 hb9)).tr (FS.s _ _ (by decide))).tr ((FS.s _ _ (by decide)).tr (FS.s _ _ (by decide)))
                      have g57 : (set2 (set2 (set2 m_54 71 used ((m_54 35 59) + k)) 72 used 9) 73 used (mem 70 k)) 35 57 = mem 35 57 := hfs9 35 57 (by decide) (by decide) (by decide) (by decide) (by decide) (by decide) (by decide) (by decide)
                      have g58 : (set2 (set2 (set2 m_54 71 used ((m_54 35 59) + k)) 72 used 9) 73 used (mem 70 k)) 35 58 = mem 35 58 := hfs9 35 58 (by decide) (by decide) (by decide) (by decide) (by decide) (by decide) (by decide) (by decide)
                      have g59 : (set2 (set2 (set2 m_54 71 used ((m_54 35 59) + k)) 72 used 9) 73 used (mem 70 k)) 35 59 = mem 35 59 := hfs9 35 59 (by decide) (by decide) (by decide) (by decide) (by decide) (by decide) (by decide) (by decide)
                      have hrs9 : ∀ x : Int, 0 ≤ x → x < mem 35 57 → (set2 (set2 (set2 m_54 71 used ((m_54 35 59) + k)) 72 used 9) 73 used (mem 70 k)) 70 x = markJ (mem 35 57) rs k (tmC (mem 35 58) c) (-(rs k)) (tmC (mem 35 58) c + 1) x := fun x h1 h2 => by rw [s2_a (by decide), s2_a (by decide), s2_a (by decide), hx9 x, hT, f57, hrk2]; exact markJ_congr hz70b x h1 h2
                      have htr9 : TRY (set2 (set2 (set2 m_54 71 used ((m_54 35 59) + k)) 72 used 9) 73 used (mem 70 k)) 1 (upI tl 0 (mem 35 59 + k)) (upI tc 0 (coC (mem 35 58) c)) (upI ta 0 (rs k)) := by rw [hu]; exact try_up (htr2.of ⟨funext fun j => hb9 71 j (by decide), funext fun j => hb9 72 j (by decide), funext fun j => hb9 73 j (by decide)⟩) (by omega) hCo hrk2
                      have hst9 : SKST (set2 (set2 (set2 m_54 71 used ((m_54 35 59) + k)) 72 used 9) 73 used (mem 70 k)) (foldC FF c.toNat S) := hst2.of (fun a j q1 q2 q3 q4 => by rw [s2_a q4, s2_a q3, s2_a q2, hb9 a j q1])
                      refine jblk hF [(.aload_n 0, 1), (.iload_n 3, 1), (.iconst 1, 1), (.iadd, 1), (.iload_n 2, 1), (.iconst 1, 1), (.iadd, 1)] (by decide +kernel) (pc' := 253) (lo' := [(7, (0, (m2 35 58) + 1)), (0, (2, 35)), (1, (0, i)), (2, (0, used)), (3, (0, k)), (4, (1, mem 70 k)), (6, (0, c))]) (st' := [(0, used + 1), (0, k + 1), (2, 35)]) rfl ?_
                      refine jcallV hF (c_seek1 hG hS (SR.s (SR.s (SR.s hR_m_54 (Or.inl (by decide))) (Or.inl (by decide))) (Or.inl (by decide))) (k + 1) (used + 1) (by exact (markJ (mem 35 57) rs k (tmC (mem 35 58) c) (-(rs k)) (tmC (mem 35 58) c + 1))) (by exact (upI tl 0 (mem 35 59 + k))) (by exact (upI tc 0 (coC (mem 35 58) c))) (by exact (upI ta 0 (rs k))) (by exact (foldC FF c.toNat S)) (by omega) (by first | omega | (rw [g57]; omega) | (rw [g58]; omega) | (rw [g59]; omega)) (by first | omega | (rw [g57]; omega) | (rw [g58]; omega) | (rw [g59]; omega)) (by first | omega | (rw [g57]; omega) | (rw [g58]; omega) | (rw [g59]; omega)) (by first | omega | (rw [g57]; omega) | (rw [g58]; omega) | (rw [g59]; omega)) (by rw [g57]; exact hrs9) (by exact htr9) (by exact hst9) (by exact hsb2)) MW_X12_seek 13 (by decide) (by exact hS.k35) wd_2117 wd_2119 wd_p96 (by decide +kernel) [] rfl rfl (by decide) (Nat.le_of_ble_eq_true rfl) (by decide) (kMV (fun m_57 h_58 => ?_))
                      obtain ⟨hR_m_57, h_58⟩ := h_58
                      obtain ⟨hfs8, hz8, htr8, hst8⟩ := h_58
                      rw [g57] at hz8
                      rw [g57, g58, g59] at hst8
                      have i57 : m_57 35 57 = mem 35 57 := (hfs9.tr hfs8) 35 57 (by decide) (by decide) (by decide) (by decide) (by decide) (by decide) (by decide) (by decide)
                      refine jblk hF [(.aload_n 0, 1), (.iload_n 3, 1), (.iload 7, 2), (.lload 4, 2)] (by decide +kernel) (pc' := 262) (lo' := [(7, (0, (m2 35 58) + 1)), (0, (2, 35)), (1, (0, i)), (2, (0, used)), (3, (0, k)), (4, (1, mem 70 k)), (6, (0, c))]) (st' := [(1, mem 70 k), (0, (m2 35 58) + 1), (0, k), (2, 35)]) rfl ?_
                      refine jcallV hF (c_X12_mark hG hS hR_m_57 k ((m2 35 58) + 1) (mem 70 k) (by omega) (by omega) (by first | omega | (rw [e57]; omega))) MW_X12_mark 13 (by decide) (by exact hS.k35) wd_2121 wd_2123 wd_p97 (by decide +kernel) [] rfl rfl (by decide) (Nat.le_of_ble_eq_true rfl) (by decide) (kMV (fun m_59 h_60 => ?_))
                      obtain ⟨hR_m_59, h_60⟩ := h_60
                      have hfs3 : FS mem m_59 := (hfs9.tr hfs8).tr (FS.of70 h_60.1)
                      have hz3 : ∀ x : Int, 0 ≤ x → x < mem 35 57 → m_59 70 x = rs x := fun x h1 h2 => by rw [h_60.2 x, hT, i57, hrk2, markJ_congr (fun y h1 h2 => (hz8 y h1 h2).trans (hrs9 y h1 h2)) x h1 h2]; exact markJ_back x
                      have htr3 : TRY m_59 0 tl tc ta := (try_dn (u := 0) htr8).of ⟨funext fun j => h_60.1 71 j (by decide), funext fun j => h_60.1 72 j (by decide), funext fun j => h_60.1 73 j (by decide)⟩
                      have hst3 : SKST m_59 (FF c (foldC FF c.toNat S)) := by rw [hFFa]; exact hst8.of (fun a j q1 _ _ _ => h_60.1 a j q1)
                      refine jblk hF [(.iinc 6 1, 3)] (by decide +kernel) (pc' := 268) (lo' := [(6, (0, c + 1)), (7, (0, (m2 35 58) + 1)), (0, (2, 35)), (1, (0, i)), (2, (0, used)), (3, (0, k)), (4, (1, mem 70 k))]) (st' := []) rfl ?_
                      refine jgoto hF (off := (-110)) 158 (by decide +kernel) (by decide) ?_
                      refine jsub [2, 3, 4, 5, 6, 0] rfl ?_
                      refine ih_42 (c + 1) m_59 ?_ ?_ ?_ ?_ ?_ ?_ ?_ ?_
                      · omega
                      · assumption
                      · exact hfs3
                      · exact hz3
                      · exact htr3
                      · rw [foldC_s (by omega)]; exact hst3
                      · rw [foldC_s (by omega), hFFa]; exact hSBF _ _ _ _ _ _ hsb2
                      · omega
              refine jsub [2, 3, 4, 5, 1, 0] rfl ?_
              refine L_43 _ 0 mem ?_ ?_ ?_ ?_ ?_ ?_ ?_ (Nat.lt_succ_self _)
              · omega
              · exact hR
              · exact FS.rf
              · exact hrs
              · exact htr
              · exact hst
              · exact hsb
            · refine jvret hF hr (by decide +kernel) ?_
              exact lMV ⟨hR, by exfalso; omega⟩
          · refine jblk hF [(.aload_n 0, 1)] (by decide +kernel) (pc' := 36) (lo' := [(0, (2, 35)), (1, (0, i)), (2, (0, used)), (3, (0, k))]) (st' := [(2, 35)]) rfl ?_
            refine jget hF 13 55 0 55 rfl (by decide) (by decide) rfl wd_1518 (by decide +kernel) (by exact hS.k35) ?_
            refine jblk hF [(.iconst (-1), 1)] (by decide +kernel) (pc' := 40) (lo' := [(0, (2, 35)), (1, (0, i)), (2, (0, used)), (3, (0, k))]) (st' := [(0, (-1)), (0, mem 35 55)]) rfl ?_
            refine jicmp_eq hF (off := 11) 51 (by decide +kernel) (by decide) (by omega) (by decide) (fun h_61 => ?_) (fun h_61 => ?_)
            · have hkN : k = mem 35 57 := by omega
              refine jblk hF [(.aload_n 0, 1), (.iload_n 2, 1)] (by decide +kernel) (pc' := 53) (lo' := [(0, (2, 35)), (1, (0, i)), (2, (0, used)), (3, (0, k))]) (st' := [(0, used), (2, 35)]) rfl ?_
              refine jput hF 13 55 0 55 rfl (by decide) (by decide) rfl wd_1518 (by decide +kernel) rfl (Or.inl rfl) (by exact hS.k35) (fun h => by cases h) ?_
              refine jblk hF [(.aload_n 0, 1), (.iconst 0, 1)] (by decide +kernel) (pc' := 58) (lo' := [(0, (2, 35)), (1, (0, i)), (2, (0, used)), (3, (0, k))]) (st' := [(0, 0), (2, 35)]) rfl ?_
              refine jput hF 13 56 0 56 rfl (by decide) (by decide) rfl wd_1519 (by decide +kernel) rfl (Or.inl rfl) (by exact hS.k35) (fun h => by cases h) ?_
              refine jblk hF [(.iconst 0, 1), (.istore 4, 2)] (by decide +kernel) (pc' := 64) (lo' := [(4, (0, 0)), (0, (2, 35)), (1, (0, i)), (2, (0, used)), (3, (0, k))]) (st' := []) rfl ?_
              have L_63 : ∀ (fu_64 : Nat) (j : Int) (m1 : Int → Int → Int), (0 ≤ j ∧ j ≤ 0) → (SR m1) → (FS mem m1) → (m1 70 = mem 70 ∧ m1 71 = mem 71 ∧ m1 72 = mem 72 ∧ m1 73 = mem 73) → (m1 35 55 = used ∧ m1 35 56 = 0) → (m1 74 = cpN j tl S.2.2.1 ∧ m1 75 = cpN j tc S.2.2.2.1 ∧ m1 76 = cpN j ta S.2.2.2.2) →  (4 - j).toNat < fu_64 → J z g 8 0 0 (QM z g 0 0 (pMV (fun mem' => SR mem' ∧ (FS mem mem' ∧ (∀ x : Int, 0 ≤ x → x < mem 35 57 → mem' 70 x = mem 70 x) ∧ TRY mem' 0 tl tc ta ∧ SKST mem' (seekF (mem 35 57) (mem 35 58) (mem 35 59) 4 rs i tl tc ta S))) kd ln sz)) 64 [(0, (2, 35)), (1, (0, i)), (2, (0, used)), (3, (0, k)), (4, (0, j))] [] kd ln m1 sz := by
                intro fu_64
                induction fu_64 with
                | zero => intro j m1 _ _ _ _ _ _ hm; omega
                | succ fu_64 ih_62 =>
                  intro j m1 hj hR_m1 hfs hz70 hz55 hz74 hm1
                  refine jblk hF [(.iload 4, 2), (.iload_n 2, 1)] (by decide +kernel) (pc' := 67) (lo' := [(0, (2, 35)), (1, (0, i)), (2, (0, used)), (3, (0, k)), (4, (0, j))]) (st' := [(0, used), (0, j)]) rfl ?_
                  refine jicmp_ge hF (off := 51) 118 (by decide +kernel) (by decide) (by omega) (by omega) (fun h_65 => ?_) (fun h_65 => ?_)
                  · refine jblk hF [(.aload_n 0, 1), (.dup, 1)] (by decide +kernel) (pc' := 120) (lo' := [(0, (2, 35)), (1, (0, i)), (2, (0, used)), (3, (0, k)), (4, (0, j))]) (st' := [(2, 35), (2, 35)]) rfl ?_
                    refine jget hF 13 56 0 56 rfl (by decide) (by decide) rfl wd_1519 (by decide +kernel) (by exact hS.k35) ?_
                    refine jblk hF [(.iload_n 2, 1), (.aload_n 0, 1)] (by decide +kernel) (pc' := 125) (lo' := [(0, (2, 35)), (1, (0, i)), (2, (0, used)), (3, (0, k)), (4, (0, j))]) (st' := [(2, 35), (0, used), (0, m1 35 56), (2, 35)]) rfl ?_
                    refine jget hF 13 55 0 55 rfl (by decide) (by decide) rfl wd_1518 (by decide +kernel) (by exact hS.k35) ?_
                    refine jicmp_ne hF (off := 7) 135 (by decide +kernel) (by decide) (by omega) (by omega) (fun h_66 => ?_) (fun h_66 => ?_)
                    · refine jblk hF [(.iconst 0, 1), (.iadd, 1)] (by decide +kernel) (pc' := 137) (lo' := [(0, (2, 35)), (1, (0, i)), (2, (0, used)), (3, (0, k)), (4, (0, j))]) (st' := [(0, (m1 35 56) + 0), (2, 35)]) rfl ?_
                      refine jput hF 13 56 0 56 rfl (by decide) (by decide) rfl wd_1519 (by decide +kernel) rfl (Or.inl rfl) (by exact hS.k35) (fun h => by cases h) ?_
                      refine jvret hF hr (by decide +kernel) ?_
                      exact lMV ⟨(SR.s hR_m1 (Or.inr (by decide))), by have hkN : k = mem 35 57 := (by omega); have hsT : skipN rs i (mem 35 57 - i).toNat = mem 35 57 := (by rw [hsk, hkN]; exact skip_n); rw [seekT (u := 0) (by decide) hsT]; first | exact ⟨hfs.tr (FS.p _ (by decide)), fun x _ _ => congrFun hz70.1 x, htr.of ⟨hz70.2.1, hz70.2.2.1, hz70.2.2.2⟩, fin_new (by omega) (by rw [hz55.1]; exact hu) (by rw [show (0 : Int) = j by omega]; exact hz74) (by omega)⟩ | exact ⟨FS.p _ (by decide), fun x _ _ => rfl, htr, fin_keep (by omega) hst (by first | (rw [if_pos (by omega)]; omega) | (rw [if_neg (by omega)]; omega))⟩ | (exfalso; omega)⟩
                    · refine jblk hF [(.iconst 1, 1)] (by decide +kernel) (pc' := 132) (lo' := [(0, (2, 35)), (1, (0, i)), (2, (0, used)), (3, (0, k)), (4, (0, j))]) (st' := [(0, 1), (0, m1 35 56), (2, 35)]) rfl ?_
                      refine jgoto hF (off := 4) 136 (by decide +kernel) (by decide) ?_
                      refine jblk hF [(.iadd, 1)] (by decide +kernel) (pc' := 137) (lo' := [(0, (2, 35)), (1, (0, i)), (2, (0, used)), (3, (0, k)), (4, (0, j))]) (st' := [(0, (m1 35 56) + 1), (2, 35)]) rfl ?_
                      refine jput hF 13 56 0 56 rfl (by decide) (by decide) rfl wd_1519 (by decide +kernel) rfl (Or.inl rfl) (by exact hS.k35) (fun h => by cases h) ?_
                      refine jvret hF hr (by decide +kernel) ?_
                      exact lMV ⟨(SR.s hR_m1 (Or.inr (by decide))), by have hkN : k = mem 35 57 := (by omega); have hsT : skipN rs i (mem 35 57 - i).toNat = mem 35 57 := (by rw [hsk, hkN]; exact skip_n); rw [seekT (u := 0) (by decide) hsT]; first | exact ⟨hfs.tr (FS.p _ (by decide)), fun x _ _ => congrFun hz70.1 x, htr.of ⟨hz70.2.1, hz70.2.2.1, hz70.2.2.2⟩, fin_new (by omega) (by rw [hz55.1]; exact hu) (by rw [show (0 : Int) = j by omega]; exact hz74) (by omega)⟩ | exact ⟨FS.p _ (by decide), fun x _ _ => rfl, htr, fin_keep (by omega) hst (by first | (rw [if_pos (by omega)]; omega) | (rw [if_neg (by omega)]; omega))⟩ | (exfalso; omega)⟩
                  · refine jblk hF [(.aload_n 0, 1)] (by decide +kernel) (pc' := 71) (lo' := [(0, (2, 35)), (1, (0, i)), (2, (0, used)), (3, (0, k)), (4, (0, j))]) (st' := [(2, 35)]) rfl ?_
                    refine jget hF 13 52 2 52 rfl (by decide) (by decide) rfl wd_1515 (by decide +kernel) (by exact hS.k35) ?_
                    rw [SR.r52 hR_m1]
                    refine jblk hF [(.iload 4, 2), (.aload_n 0, 1)] (by decide +kernel) (pc' := 77) (lo' := [(0, (2, 35)), (1, (0, i)), (2, (0, used)), (3, (0, k)), (4, (0, j))]) (st' := [(2, 35), (0, j), (2, 74)]) rfl ?_
                    refine jget hF 13 49 2 49 rfl (by decide) (by decide) rfl wd_1512 (by decide +kernel) (by exact hS.k35) ?_
                    rw [SR.r49 hR_m1]
                    refine jblk hF [(.iload 4, 2)] (by decide +kernel) (pc' := 82) (lo' := [(0, (2, 35)), (1, (0, i)), (2, (0, used)), (3, (0, k)), (4, (0, j))]) (st' := [(0, j), (2, 71), (0, j), (2, 74)]) rfl ?_
                    refine jiald hF (by decide +kernel) (by exact hS.k71) (by omega) (by have := hS.l71; omega) ?_
                    refine jiast hF (by decide +kernel) (by decide) (by exact hS.k74) (by omega) (by have := hS.l74; omega) ?_
                    refine jblk hF [(.aload_n 0, 1)] (by decide +kernel) (pc' := 85) (lo' := [(0, (2, 35)), (1, (0, i)), (2, (0, used)), (3, (0, k)), (4, (0, j))]) (st' := [(2, 35)]) rfl ?_
                    refine jget hF 13 53 2 53 rfl (by decide) (by decide) rfl wd_1516 (by decide +kernel) (by exact hS.k35) ?_
                    rw [SR.r53 (SR.s hR_m1 (Or.inl (by decide)))]
                    refine jblk hF [(.iload 4, 2), (.aload_n 0, 1)] (by decide +kernel) (pc' := 91) (lo' := [(0, (2, 35)), (1, (0, i)), (2, (0, used)), (3, (0, k)), (4, (0, j))]) (st' := [(2, 35), (0, j), (2, 75)]) rfl ?_
                    refine jget hF 13 50 2 50 rfl (by decide) (by decide) rfl wd_1513 (by decide +kernel) (by exact hS.k35) ?_
                    rw [SR.r50 (SR.s hR_m1 (Or.inl (by decide)))]
                    refine jblk hF [(.iload 4, 2)] (by decide +kernel) (pc' := 96) (lo' := [(0, (2, 35)), (1, (0, i)), (2, (0, used)), (3, (0, k)), (4, (0, j))]) (st' := [(0, j), (2, 72), (0, j), (2, 75)]) rfl ?_
                    refine jiald hF (by decide +kernel) (by exact hS.k72) (by omega) (by have := hS.l72; omega) ?_
                    rw [show (set2 m1 74 j (m1 71 j)) 72 j = m1 72 j from (s2_a (by decide))]
                    refine jiast hF (by decide +kernel) (by decide) (by exact hS.k75) (by omega) (by have := hS.l75; omega) ?_
                    refine jblk hF [(.aload_n 0, 1)] (by decide +kernel) (pc' := 99) (lo' := [(0, (2, 35)), (1, (0, i)), (2, (0, used)), (3, (0, k)), (4, (0, j))]) (st' := [(2, 35)]) rfl ?_
                    refine jget hF 13 54 2 54 rfl (by decide) (by decide) rfl wd_1517 (by decide +kernel) (by exact hS.k35) ?_
                    rw [SR.r54 (SR.s (SR.s hR_m1 (Or.inl (by decide))) (Or.inl (by decide)))]
                    refine jblk hF [(.iload 4, 2), (.aload_n 0, 1)] (by decide +kernel) (pc' := 105) (lo' := [(0, (2, 35)), (1, (0, i)), (2, (0, used)), (3, (0, k)), (4, (0, j))]) (st' := [(2, 35), (0, j), (2, 76)]) rfl ?_
                    refine jget hF 13 51 2 51 rfl (by decide) (by decide) rfl wd_1514 (by decide +kernel) (by exact hS.k35) ?_
                    rw [SR.r51 (SR.s (SR.s hR_m1 (Or.inl (by decide))) (Or.inl (by decide)))]
                    refine jblk hF [(.iload 4, 2)] (by decide +kernel) (pc' := 110) (lo' := [(0, (2, 35)), (1, (0, i)), (2, (0, used)), (3, (0, k)), (4, (0, j))]) (st' := [(0, j), (2, 73), (0, j), (2, 76)]) rfl ?_
                    refine jlald hF (by decide +kernel) (by exact hS.k73) (by omega) (by have := hS.l73; omega) ?_
                    rw [show (set2 (set2 m1 74 j (m1 71 j)) 75 j (m1 72 j)) 73 j = m1 73 j from ((s2_a (by decide)).trans (s2_a (by decide)))]
                    refine jlast hF (by decide +kernel) (by decide) (by exact hS.k76) (by omega) (by have := hS.l76; omega) ?_
                    refine jblk hF [(.iinc 4 1, 3)] (by decide +kernel) (pc' := 115) (lo' := [(4, (0, j + 1)), (0, (2, 35)), (1, (0, i)), (2, (0, used)), (3, (0, k))]) (st' := []) rfl ?_
                    refine jgoto hF (off := (-51)) 64 (by decide +kernel) (by decide) ?_
                    refine jsub [1, 2, 3, 4, 0] rfl ?_
                    refine ih_62 (j + 1) (set2 (set2 (set2 m1 74 j (m1 71 j)) 75 j (m1 72 j)) 76 j (m1 73 j)) ?_ ?_ ?_ ?_ ?_ ?_ ?_
                    · omega
                    · exact ((hR_m1.s (Or.inl (by decide))).s (Or.inl (by decide))).s (Or.inl (by decide))
                    · exact ((hfs.tr (FS.s _ _ (by decide))).tr (FS.s _ _ (by decide))).tr (FS.s _ _ (by decide))
                    · exact ⟨hz70.1, hz70.2.1, hz70.2.2.1, hz70.2.2.2⟩
                    · exact hz55
                    · have h9 := htr j (by omega) (by omega); exact cp3 (by omega) hz74 ⟨by rw [hz70.2.1]; exact h9.1, by rw [hz70.2.2.1]; exact h9.2.1, by rw [hz70.2.2.2]; exact h9.2.2⟩
                    · omega
              refine jsub [1, 2, 3, 4, 0] rfl ?_
              refine L_63 _ 0 (set2 (set2 mem 35 55 used) 35 56 0) ?_ ?_ ?_ ?_ ?_ ?_ (Nat.lt_succ_self _)
              · omega
              · exact (hR.s (Or.inr (by decide))).s (Or.inr (by decide))
              · exact (FS.p _ (by decide)).tr (FS.p _ (by decide))
              · exact ⟨rfl, rfl, rfl, rfl⟩
              · exact ⟨by rw [s2_k (by decide), s2_s], by rw [s2_s]⟩
              · exact ⟨cpN_0 hst.2.2.1, cpN_0 hst.2.2.2.1, cpN_0 hst.2.2.2.2⟩
            · refine jblk hF [(.iload_n 2, 1), (.aload_n 0, 1)] (by decide +kernel) (pc' := 45) (lo' := [(0, (2, 35)), (1, (0, i)), (2, (0, used)), (3, (0, k))]) (st' := [(2, 35), (0, used)]) rfl ?_
              refine jget hF 13 55 0 55 rfl (by decide) (by decide) rfl wd_1518 (by decide +kernel) (by exact hS.k35) ?_
              refine jicmp_ge hF (off := 70) 118 (by decide +kernel) (by decide) (by omega) (by omega) (fun h_67 => ?_) (fun h_67 => ?_)
              · refine jblk hF [(.aload_n 0, 1), (.dup, 1)] (by decide +kernel) (pc' := 120) (lo' := [(0, (2, 35)), (1, (0, i)), (2, (0, used)), (3, (0, k))]) (st' := [(2, 35), (2, 35)]) rfl ?_
                refine jget hF 13 56 0 56 rfl (by decide) (by decide) rfl wd_1519 (by decide +kernel) (by exact hS.k35) ?_
                refine jblk hF [(.iload_n 2, 1), (.aload_n 0, 1)] (by decide +kernel) (pc' := 125) (lo' := [(0, (2, 35)), (1, (0, i)), (2, (0, used)), (3, (0, k))]) (st' := [(2, 35), (0, used), (0, mem 35 56), (2, 35)]) rfl ?_
                refine jget hF 13 55 0 55 rfl (by decide) (by decide) rfl wd_1518 (by decide +kernel) (by exact hS.k35) ?_
                refine jicmp_ne hF (off := 7) 135 (by decide +kernel) (by decide) (by omega) (by omega) (fun h_68 => ?_) (fun h_68 => ?_)
                · refine jblk hF [(.iconst 0, 1), (.iadd, 1)] (by decide +kernel) (pc' := 137) (lo' := [(0, (2, 35)), (1, (0, i)), (2, (0, used)), (3, (0, k))]) (st' := [(0, (mem 35 56) + 0), (2, 35)]) rfl ?_
                  refine jput hF 13 56 0 56 rfl (by decide) (by decide) rfl wd_1519 (by decide +kernel) rfl (Or.inl rfl) (by exact hS.k35) (fun h => by cases h) ?_
                  refine jvret hF hr (by decide +kernel) ?_
                  exact lMV ⟨(SR.s hR (Or.inr (by decide))), by have hkN : k = mem 35 57 := (by omega); have hsT : skipN rs i (mem 35 57 - i).toNat = mem 35 57 := (by rw [hsk, hkN]; exact skip_n); rw [seekT (u := 0) (by decide) hsT]; first | exact ⟨hfs.tr (FS.p _ (by decide)), fun x _ _ => congrFun hz70.1 x, htr.of ⟨hz70.2.1, hz70.2.2.1, hz70.2.2.2⟩, fin_new (by omega) (by rw [hz55.1]; exact hu) (by rw [show (0 : Int) = j by omega]; exact hz74) (by omega)⟩ | exact ⟨FS.p _ (by decide), fun x _ _ => rfl, htr, fin_keep (by omega) hst (by first | (rw [if_pos (by omega)]; omega) | (rw [if_neg (by omega)]; omega))⟩ | (exfalso; omega)⟩
                · refine jblk hF [(.iconst 1, 1)] (by decide +kernel) (pc' := 132) (lo' := [(0, (2, 35)), (1, (0, i)), (2, (0, used)), (3, (0, k))]) (st' := [(0, 1), (0, mem 35 56), (2, 35)]) rfl ?_
                  refine jgoto hF (off := 4) 136 (by decide +kernel) (by decide) ?_
                  refine jblk hF [(.iadd, 1)] (by decide +kernel) (pc' := 137) (lo' := [(0, (2, 35)), (1, (0, i)), (2, (0, used)), (3, (0, k))]) (st' := [(0, (mem 35 56) + 1), (2, 35)]) rfl ?_
                  refine jput hF 13 56 0 56 rfl (by decide) (by decide) rfl wd_1519 (by decide +kernel) rfl (Or.inl rfl) (by exact hS.k35) (fun h => by cases h) ?_
                  refine jvret hF hr (by decide +kernel) ?_
                  exact lMV ⟨(SR.s hR (Or.inr (by decide))), by have hkN : k = mem 35 57 := (by omega); have hsT : skipN rs i (mem 35 57 - i).toNat = mem 35 57 := (by rw [hsk, hkN]; exact skip_n); rw [seekT (u := 0) (by decide) hsT]; first | exact ⟨hfs.tr (FS.p _ (by decide)), fun x _ _ => congrFun hz70.1 x, htr.of ⟨hz70.2.1, hz70.2.2.1, hz70.2.2.2⟩, fin_new (by omega) (by rw [hz55.1]; exact hu) (by rw [show (0 : Int) = j by omega]; exact hz74) (by omega)⟩ | exact ⟨FS.p _ (by decide), fun x _ _ => rfl, htr, fin_keep (by omega) hst (by first | (rw [if_pos (by omega)]; omega) | (rw [if_neg (by omega)]; omega))⟩ | (exfalso; omega)⟩
              · have hkN : k = mem 35 57 := by omega
                refine jblk hF [(.aload_n 0, 1), (.iload_n 2, 1)] (by decide +kernel) (pc' := 53) (lo' := [(0, (2, 35)), (1, (0, i)), (2, (0, used)), (3, (0, k))]) (st' := [(0, used), (2, 35)]) rfl ?_
                refine jput hF 13 55 0 55 rfl (by decide) (by decide) rfl wd_1518 (by decide +kernel) rfl (Or.inl rfl) (by exact hS.k35) (fun h => by cases h) ?_
                refine jblk hF [(.aload_n 0, 1), (.iconst 0, 1)] (by decide +kernel) (pc' := 58) (lo' := [(0, (2, 35)), (1, (0, i)), (2, (0, used)), (3, (0, k))]) (st' := [(0, 0), (2, 35)]) rfl ?_
                refine jput hF 13 56 0 56 rfl (by decide) (by decide) rfl wd_1519 (by decide +kernel) rfl (Or.inl rfl) (by exact hS.k35) (fun h => by cases h) ?_
                refine jblk hF [(.iconst 0, 1), (.istore 4, 2)] (by decide +kernel) (pc' := 64) (lo' := [(4, (0, 0)), (0, (2, 35)), (1, (0, i)), (2, (0, used)), (3, (0, k))]) (st' := []) rfl ?_
                have L_70 : ∀ (fu_71 : Nat) (j : Int) (m1 : Int → Int → Int), (0 ≤ j ∧ j ≤ 0) → (SR m1) → (FS mem m1) → (m1 70 = mem 70 ∧ m1 71 = mem 71 ∧ m1 72 = mem 72 ∧ m1 73 = mem 73) → (m1 35 55 = used ∧ m1 35 56 = 0) → (m1 74 = cpN j tl S.2.2.1 ∧ m1 75 = cpN j tc S.2.2.2.1 ∧ m1 76 = cpN j ta S.2.2.2.2) →  (4 - j).toNat < fu_71 → J z g 8 0 0 (QM z g 0 0 (pMV (fun mem' => SR mem' ∧ (FS mem mem' ∧ (∀ x : Int, 0 ≤ x → x < mem 35 57 → mem' 70 x = mem 70 x) ∧ TRY mem' 0 tl tc ta ∧ SKST mem' (seekF (mem 35 57) (mem 35 58) (mem 35 59) 4 rs i tl tc ta S))) kd ln sz)) 64 [(0, (2, 35)), (1, (0, i)), (2, (0, used)), (3, (0, k)), (4, (0, j))] [] kd ln m1 sz := by
                  intro fu_71
                  induction fu_71 with
                  | zero => intro j m1 _ _ _ _ _ _ hm; omega
                  | succ fu_71 ih_69 =>
                    intro j m1 hj hR_m1 hfs hz70 hz55 hz74 hm1
                    refine jblk hF [(.iload 4, 2), (.iload_n 2, 1)] (by decide +kernel) (pc' := 67) (lo' := [(0, (2, 35)), (1, (0, i)), (2, (0, used)), (3, (0, k)), (4, (0, j))]) (st' := [(0, used), (0, j)]) rfl ?_
                    refine jicmp_ge hF (off := 51) 118 (by decide +kernel) (by decide) (by omega) (by omega) (fun h_72 => ?_) (fun h_72 => ?_)
                    · refine jblk hF [(.aload_n 0, 1), (.dup, 1)] (by decide +kernel) (pc' := 120) (lo' := [(0, (2, 35)), (1, (0, i)), (2, (0, used)), (3, (0, k)), (4, (0, j))]) (st' := [(2, 35), (2, 35)]) rfl ?_
                      refine jget hF 13 56 0 56 rfl (by decide) (by decide) rfl wd_1519 (by decide +kernel) (by exact hS.k35) ?_
                      refine jblk hF [(.iload_n 2, 1), (.aload_n 0, 1)] (by decide +kernel) (pc' := 125) (lo' := [(0, (2, 35)), (1, (0, i)), (2, (0, used)), (3, (0, k)), (4, (0, j))]) (st' := [(2, 35), (0, used), (0, m1 35 56), (2, 35)]) rfl ?_
                      refine jget hF 13 55 0 55 rfl (by decide) (by decide) rfl wd_1518 (by decide +kernel) (by exact hS.k35) ?_
                      refine jicmp_ne hF (off := 7) 135 (by decide +kernel) (by decide) (by omega) (by omega) (fun h_73 => ?_) (fun h_73 => ?_)
                      · refine jblk hF [(.iconst 0, 1), (.iadd, 1)] (by decide +kernel) (pc' := 137) (lo' := [(0, (2, 35)), (1, (0, i)), (2, (0, used)), (3, (0, k)), (4, (0, j))]) (st' := [(0, (m1 35 56) + 0), (2, 35)]) rfl ?_
                        refine jput hF 13 56 0 56 rfl (by decide) (by decide) rfl wd_1519 (by decide +kernel) rfl (Or.inl rfl) (by exact hS.k35) (fun h => by cases h) ?_
                        refine jvret hF hr (by decide +kernel) ?_
                        exact lMV ⟨(SR.s hR_m1 (Or.inr (by decide))), by have hkN : k = mem 35 57 := (by omega); have hsT : skipN rs i (mem 35 57 - i).toNat = mem 35 57 := (by rw [hsk, hkN]; exact skip_n); rw [seekT (u := 0) (by decide) hsT]; first | exact ⟨hfs.tr (FS.p _ (by decide)), fun x _ _ => congrFun hz70.1 x, htr.of ⟨hz70.2.1, hz70.2.2.1, hz70.2.2.2⟩, fin_new (by omega) (by rw [hz55.1]; exact hu) (by rw [show (0 : Int) = j by omega]; exact hz74) (by omega)⟩ | exact ⟨FS.p _ (by decide), fun x _ _ => rfl, htr, fin_keep (by omega) hst (by first | (rw [if_pos (by omega)]; omega) | (rw [if_neg (by omega)]; omega))⟩ | (exfalso; omega)⟩
                      · refine jblk hF [(.iconst 1, 1)] (by decide +kernel) (pc' := 132) (lo' := [(0, (2, 35)), (1, (0, i)), (2, (0, used)), (3, (0, k)), (4, (0, j))]) (st' := [(0, 1), (0, m1 35 56), (2, 35)]) rfl ?_
                        refine jgoto hF (off := 4) 136 (by decide +kernel) (by decide) ?_
                        refine jblk hF [(.iadd, 1)] (by decide +kernel) (pc' := 137) (lo' := [(0, (2, 35)), (1, (0, i)), (2, (0, used)), (3, (0, k)), (4, (0, j))]) (st' := [(0, (m1 35 56) + 1), (2, 35)]) rfl ?_
                        refine jput hF 13 56 0 56 rfl (by decide) (by decide) rfl wd_1519 (by decide +kernel) rfl (Or.inl rfl) (by exact hS.k35) (fun h => by cases h) ?_
                        refine jvret hF hr (by decide +kernel) ?_
                        exact lMV ⟨(SR.s hR_m1 (Or.inr (by decide))), by have hkN : k = mem 35 57 := (by omega); have hsT : skipN rs i (mem 35 57 - i).toNat = mem 35 57 := (by rw [hsk, hkN]; exact skip_n); rw [seekT (u := 0) (by decide) hsT]; first | exact ⟨hfs.tr (FS.p _ (by decide)), fun x _ _ => congrFun hz70.1 x, htr.of ⟨hz70.2.1, hz70.2.2.1, hz70.2.2.2⟩, fin_new (by omega) (by rw [hz55.1]; exact hu) (by rw [show (0 : Int) = j by omega]; exact hz74) (by omega)⟩ | exact ⟨FS.p _ (by decide), fun x _ _ => rfl, htr, fin_keep (by omega) hst (by first | (rw [if_pos (by omega)]; omega) | (rw [if_neg (by omega)]; omega))⟩ | (exfalso; omega)⟩
                    · refine jblk hF [(.aload_n 0, 1)] (by decide +kernel) (pc' := 71) (lo' := [(0, (2, 35)), (1, (0, i)), (2, (0, used)), (3, (0, k)), (4, (0, j))]) (st' := [(2, 35)]) rfl ?_
                      refine jget hF 13 52 2 52 rfl (by decide) (by decide) rfl wd_1515 (by decide +kernel) (by exact hS.k35) ?_
                      rw [SR.r52 hR_m1]
                      refine jblk hF [(.iload 4, 2), (.aload_n 0, 1)] (by decide +kernel) (pc' := 77) (lo' := [(0, (2, 35)), (1, (0, i)), (2, (0, used)), (3, (0, k)), (4, (0, j))]) (st' := [(2, 35), (0, j), (2, 74)]) rfl ?_
                      refine jget hF 13 49 2 49 rfl (by decide) (by decide) rfl wd_1512 (by decide +kernel) (by exact hS.k35) ?_
                      rw [SR.r49 hR_m1]
                      refine jblk hF [(.iload 4, 2)] (by decide +kernel) (pc' := 82) (lo' := [(0, (2, 35)), (1, (0, i)), (2, (0, used)), (3, (0, k)), (4, (0, j))]) (st' := [(0, j), (2, 71), (0, j), (2, 74)]) rfl ?_
                      refine jiald hF (by decide +kernel) (by exact hS.k71) (by omega) (by have := hS.l71; omega) ?_
                      refine jiast hF (by decide +kernel) (by decide) (by exact hS.k74) (by omega) (by have := hS.l74; omega) ?_
                      refine jblk hF [(.aload_n 0, 1)] (by decide +kernel) (pc' := 85) (lo' := [(0, (2, 35)), (1, (0, i)), (2, (0, used)), (3, (0, k)), (4, (0, j))]) (st' := [(2, 35)]) rfl ?_
                      refine jget hF 13 53 2 53 rfl (by decide) (by decide) rfl wd_1516 (by decide +kernel) (by exact hS.k35) ?_
                      rw [SR.r53 (SR.s hR_m1 (Or.inl (by decide)))]
                      refine jblk hF [(.iload 4, 2), (.aload_n 0, 1)] (by decide +kernel) (pc' := 91) (lo' := [(0, (2, 35)), (1, (0, i)), (2, (0, used)), (3, (0, k)), (4, (0, j))]) (st' := [(2, 35), (0, j), (2, 75)]) rfl ?_
                      refine jget hF 13 50 2 50 rfl (by decide) (by decide) rfl wd_1513 (by decide +kernel) (by exact hS.k35) ?_
                      rw [SR.r50 (SR.s hR_m1 (Or.inl (by decide)))]
                      refine jblk hF [(.iload 4, 2)] (by decide +kernel) (pc' := 96) (lo' := [(0, (2, 35)), (1, (0, i)), (2, (0, used)), (3, (0, k)), (4, (0, j))]) (st' := [(0, j), (2, 72), (0, j), (2, 75)]) rfl ?_
                      refine jiald hF (by decide +kernel) (by exact hS.k72) (by omega) (by have := hS.l72; omega) ?_
                      rw [show (set2 m1 74 j (m1 71 j)) 72 j = m1 72 j from (s2_a (by decide))]
                      refine jiast hF (by decide +kernel) (by decide) (by exact hS.k75) (by omega) (by have := hS.l75; omega) ?_
                      refine jblk hF [(.aload_n 0, 1)] (by decide +kernel) (pc' := 99) (lo' := [(0, (2, 35)), (1, (0, i)), (2, (0, used)), (3, (0, k)), (4, (0, j))]) (st' := [(2, 35)]) rfl ?_
                      refine jget hF 13 54 2 54 rfl (by decide) (by decide) rfl wd_1517 (by decide +kernel) (by exact hS.k35) ?_
                      rw [SR.r54 (SR.s (SR.s hR_m1 (Or.inl (by decide))) (Or.inl (by decide)))]
                      refine jblk hF [(.iload 4, 2), (.aload_n 0, 1)] (by decide +kernel) (pc' := 105) (lo' := [(0, (2, 35)), (1, (0, i)), (2, (0, used)), (3, (0, k)), (4, (0, j))]) (st' := [(2, 35), (0, j), (2, 76)]) rfl ?_
                      refine jget hF 13 51 2 51 rfl (by decide) (by decide) rfl wd_1514 (by decide +kernel) (by exact hS.k35) ?_
                      rw [SR.r51 (SR.s (SR.s hR_m1 (Or.inl (by decide))) (Or.inl (by decide)))]
                      refine jblk hF [(.iload 4, 2)] (by decide +kernel) (pc' := 110) (lo' := [(0, (2, 35)), (1, (0, i)), (2, (0, used)), (3, (0, k)), (4, (0, j))]) (st' := [(0, j), (2, 73), (0, j), (2, 76)]) rfl ?_
                      refine jlald hF (by decide +kernel) (by exact hS.k73) (by omega) (by have := hS.l73; omega) ?_
                      rw [show (set2 (set2 m1 74 j (m1 71 j)) 75 j (m1 72 j)) 73 j = m1 73 j from ((s2_a (by decide)).trans (s2_a (by decide)))]
                      refine jlast hF (by decide +kernel) (by decide) (by exact hS.k76) (by omega) (by have := hS.l76; omega) ?_
                      refine jblk hF [(.iinc 4 1, 3)] (by decide +kernel) (pc' := 115) (lo' := [(4, (0, j + 1)), (0, (2, 35)), (1, (0, i)), (2, (0, used)), (3, (0, k))]) (st' := []) rfl ?_
                      refine jgoto hF (off := (-51)) 64 (by decide +kernel) (by decide) ?_
                      refine jsub [1, 2, 3, 4, 0] rfl ?_
                      refine ih_69 (j + 1) (set2 (set2 (set2 m1 74 j (m1 71 j)) 75 j (m1 72 j)) 76 j (m1 73 j)) ?_ ?_ ?_ ?_ ?_ ?_ ?_
                      · omega
                      · exact ((hR_m1.s (Or.inl (by decide))).s (Or.inl (by decide))).s (Or.inl (by decide))
                      · exact ((hfs.tr (FS.s _ _ (by decide))).tr (FS.s _ _ (by decide))).tr (FS.s _ _ (by decide))
                      · exact ⟨hz70.1, hz70.2.1, hz70.2.2.1, hz70.2.2.2⟩
                      · exact hz55
                      · have h9 := htr j (by omega) (by omega); exact cp3 (by omega) hz74 ⟨by rw [hz70.2.1]; exact h9.1, by rw [hz70.2.2.1]; exact h9.2.1, by rw [hz70.2.2.2]; exact h9.2.2⟩
                      · omega
                refine jsub [1, 2, 3, 4, 0] rfl ?_
                refine L_70 _ 0 (set2 (set2 mem 35 55 used) 35 56 0) ?_ ?_ ?_ ?_ ?_ ?_ (Nat.lt_succ_self _)
                · omega
                · exact (hR.s (Or.inr (by decide))).s (Or.inr (by decide))
                · exact (FS.p _ (by decide)).tr (FS.p _ (by decide))
                · exact ⟨rfl, rfl, rfl, rfl⟩
                · exact ⟨by rw [s2_k (by decide), s2_s], by rw [s2_s]⟩
                · exact ⟨cpN_0 hst.2.2.1, cpN_0 hst.2.2.2.1, cpN_0 hst.2.2.2.2⟩
        · refine jblk hF [(.iinc 3 1, 3)] (by decide +kernel) (pc' := 24) (lo' := [(3, (0, k + 1)), (0, (2, 35)), (1, (0, i)), (2, (0, used))]) (st' := []) rfl ?_
          refine jgoto hF (off := (-22)) 2 (by decide +kernel) (by decide) ?_
          refine jsub [1, 2, 3, 0] rfl ?_
          refine ih_1 (k + 1) ?_ ?_ ?_
          · omega
          · rw [hsk]; have hrk2 := hrk (by omega); exact skip_s (by omega) (by rw [← hrk2]; first | assumption | omega)
          · omega
  refine jsub [1, 2, 3, 0] rfl ?_
  refine L_2 _ i ?_ ?_ (Nat.lt_succ_self _)
  · omega
  · rfl
end
