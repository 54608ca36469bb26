section
section
variable {kd kd' kd1 kd2 : Int → Nat} {ln ln' ln1 ln2 : Int → Int} {mem m mb mm M M' mem1 mem2 : Int → Int → Int} {sz sz' sz1 sz2 : Nat} {tg tg' : Int → Int} {p v e f w n t r L : Int} {T : Int → Int}
theorem TXT.ext (h : TXT kd ln mem t r T L) (hE : EXT kd ln sz kd' ln' sz') (ht : t < sz ∧ r < sz) (h1 : ∀ j : Int, m t j = mem t j) (h2 : ∀ j : Int, m r j = mem r j) : TXT kd' ln' m t r T L := by
  have e1 := hE.2 t ht.1
  have e2 := hE.2 r ht.2
  unfold TXT
  rw [e1.1, e2.1, e2.2, h1 0, h1 1, show m r = mem r from funext h2]
  exact h
theorem slB_no {P k : Int} : ∀ i : Nat, (∀ s : Int, 0 ≤ s → s < i → M 63 s ≠ P) → slB M P k i = 0 := by
  intro i
  induction i with
  | zero => intro _; rfl
  | succ i ih =>
    intro h
    have w := h i (by omega) (by omega)
    unfold slB
    rw [ih (fun s q1 q2 => h s q1 (by omega))]
    exact if_neg (fun u => u.elim (fun y => y rfl) (fun y => w y.1))
theorem pvN_no {P k j : Int} : ∀ i : Nat, (∀ s : Int, 0 ≤ s → s < i → M 84 s ≠ P) → pvN M P k j i = 0 := by
  intro i
  induction i with
  | zero => intro _; rfl
  | succ i ih =>
    intro h
    have w := h i (by omega) (by omega)
    unfold pvN
    rw [ih (fun s q1 q2 => h s q1 (by omega))]
    exact if_neg (fun u => w u.1)
def PFL (mem1 mem : Int → Int → Int) (e f w n : Int) (T : Int → Int) (L : Int) : Prop :=
  (mem1 e 0 = f ∧ mem1 e 1 = w ∧ mem1 e 2 = n ∧ mem1 e 17 = -1 ∧ mem1 e 18 = e + 9) ∧ (∀ i : Int, 3 ≤ i → i < 9 → mem1 e i = wA T L (hdc i)) ∧ (∀ k : Int, 9 ≤ k → k ≤ 16 → mem1 e k = e + 1 + (k - 9)) ∧ (∀ k : Int, 0 ≤ k → k < n → FLR mem1 (e + 1) T L (wA T L 97) (wA T L 109) w k) ∧ (∀ k : Int, 0 ≤ k → k < n → mem1 (e + 5) k = nearBy (qV (mem 36 f) (mem 37 f) (mem 38 f) (w + k * wA T L 97)) (4 * 10 ^ (6 - (wA T L 112 + wA T L 99)).toNat) 0 ∧ mem1 (e + 7) k = nearBy (qV (mem 36 f) (mem 37 f) (mem 38 f) (w + k * wA T L 97)) (4 * 10 ^ (6 - wA T L 112).toNat) (wA T L 102)) ∧ (∃ ad : Int → Int, (∀ j : Int, 0 ≤ j → j < 200 → ad j = 0) ∧ ∀ k : Int, 0 ≤ k → k < n → mem1 (e + 6) k = numF (mem1 (e + 5)) ad (wA T L 111) (wA T L 109) k) ∧ ∀ k : Int, mem1 (e + 8) k = 0 ∧ mem1 (e + 9) k = 0
theorem INV.st0 (h : INV kd ln mem sz tg) : ∀ p : Int, mem 35 33 ≤ p → p < 12 → mem 82 p = 0 := h.2.1.2.2.2.2.2.2.2.2.2.2.2.2.2.2.2.2.1
theorem INV.prg (h : INV kd ln mem sz tg) : ∀ i : Int, 0 ≤ i → i < mem 35 72 → mem 84 i < mem 35 33 := fun i q1 q2 => (h.2.1.2.2.2.2.2.2.2.2.2.2.2.2.2.1 i q1 q2).1
set_option maxHeartbeats 2000000 in
theorem GRX.page (hI : INV kd ln mem sz tg) (hfa : (fauP T L).1 = -1) (hL : 0 ≤ L) (hc : pgC1 mem f w n t) (hc2 : pgC2 T L w n) (hc3 : pgC3 T L w n) (hE1 : EXT kd ln sz kd1 ln1 sz1) (hf1 : ∀ b j : Int, b < sz → b ≠ 7 → b ≠ 11 → b ≠ 12 → b ≠ 13 → mem1 b j = mem b j) (he : e = sz) (hs1 : sz1 = sz + 10) (hke : kd1 e = 5) (hr : ∀ i : Int, 0 ≤ i → i < 9 → kd1 (e + 1 + i) = k9 i ∧ ln1 (e + 1 + i) = 40) (hfl : PFL mem1 mem e f w n T L) (hA : ADDP ln1 mem1 sz1 29 e kd2 ln2 mem2) (hz2 : mem2 29 1 < sz2) (hE2 : EXT kd1 ln1 sz1 kd2 ln2 sz2) : ∀ M' : Int → Int → Int, PGM mem M' T L f w n → GRX kd2 ln2 mem2 sz2 M' := by
  intro M' hM
  have hs := hI.1.2.2.2.2.1
  have hn := hI.pgs
  have hz := hE2.1
  have hG : GRP kd ln mem1 sz tg mem := hI.2.2.fr hs EXT.rf (fun _ _ => rfl) (fun a j u => hf1 a j (by omega) (by omega) (by omega) (by omega) (by omega)) (fun _ _ _ => rfl)
  have hl : mem1 29 1 < sz := by rw [hf1 29 1 (by omega) (by decide) (by decide) (by decide) (by decide)]; exact hI.g29.1.2.2.2.2.1
  have hat : ∀ b : Int, e ≤ b → b < e + 10 → ∀ j : Int, mem2 b j = mem1 b j := fun b q1 q2 => hA.at hl (by omega) (b := b) (by omega)
  obtain ⟨m1, m2, m3, m4, m5, m6, m7, m8, m9, m10, m11, m12⟩ := hM
  obtain ⟨⟨a0, a1, a2, a17, a18⟩, b1, b2, b3, b4, ⟨ad, b5, b6⟩, b7⟩ := hfl
  obtain ⟨P, hP⟩ : ∃ y : Int, y = mem 35 33 := ⟨_, rfl⟩
  rw [← hP] at m2 m3 m4 m5 m6 m7 m8 m9 m10 m11 m12
  have hw := hc2
  have hFN := hI.fns.2.2 f hc.1.1 hc.1.2
  have x36 : ∀ k : Int, 36 ≤ k → k ≤ 38 → M' k f = mem k f := fun k u1 u2 => m1 k f (by omega) (by omega) (by omega) (by omega) (by omega)
  have hXP : ∀ k : Int, 0 ≤ k → k < n → 1 ≤ w + k * wA T L 97 ∧ w + k * wA T L 97 ≤ 9999 := fun k u1 u2 => by
    have y1 : 0 ≤ k * wA T L 97 := Int.mul_nonneg u1 (by omega)
    have y2 : k * wA T L 97 ≤ (n - 1) * wA T L 97 := Int.mul_le_mul_of_nonneg_right (by omega) (by omega)
    omega
  have hnp : ∀ k : Int, nearP M' P k = nearV (mem 36 f) (mem 37 f) (mem 38 f) (w + k * wA T L 97) (wA T L 112 + wA T L 99) 0 := fun k => by
    unfold nearP nearL
    rw [m3, m4, m6, m8, m9, x36 36 (by decide) (by decide), x36 37 (by decide) (by decide), x36 38 (by decide) (by decide)]
  have hrv : ∀ k : Int, rightV M' P k = nearV (mem 36 f) (mem 37 f) (mem 38 f) (w + k * wA T L 97) (wA T L 112) (wA T L 102) := fun k => by
    unfold rightV
    rw [m3, m4, m6, m8, m11, x36 36 (by decide) (by decide), x36 37 (by decide) (by decide), x36 38 (by decide) (by decide)]
  have hnr : ∀ k : Int, 0 ≤ k → k < n → mem1 (e + 5) k = nearP M' P k := fun k u1 u2 => by
    rw [(b4 k u1 u2).1, hnp k]
    exact qV_near 0 (by omega) (by have := hXP k u1 u2; omega)
  have hrw : ∀ k : Int, 9 ≤ k → k ≤ 16 → mem2 e k = e + (k - 8) := fun k u1 u2 => by rw [hat e (by omega) (by omega), b2 k u1 u2]; omega
  have h18 : mem2 e 18 = e + 9 := by rw [hat e (by omega) (by omega), a18]
  refine ⟨tgN tg sz sz1 29 (mem 35 33) (fun i => if i = 0 then 0 else if i = 9 then 18 else i + 8), hG.add29 hI.2.1 hs (by omega) hE1 (fun _ _ _ => rfl |>.trans (by rfl)) hA hz2 hE2 (by omega) hke tgN_x (tgN_1 (by omega)) ?_ (by rw [← hP]; exact m2) (fun x j q1 q2 => m1 x j (by omega) (by omega) (by omega) (by omega) (by omega)) ⟨?_, fun k u1 u2 u3 => ?_, fun k u1 u2 => ?_, Or.inl ⟨?_, ?_⟩, fun k u1 u2 => ?_⟩⟩
  · rw [tgN_n (by omega), he, Int.sub_self]; exact Int.add_zero _
  · unfold PGN
    rw [← hP, m3, m4, m5, m6, m7, m8, m9, m10, m11]
    have b : ∀ i : Int, 3 ≤ i → i < 9 → mem2 e i = wA T L (hdc i) := fun i u1 u2 => by rw [hat e (by omega) (by omega)]; exact b1 i u1 u2
    exact ⟨by rw [hat e (by omega) (by omega)]; exact a0, by rw [hat e (by omega) (by omega)]; exact a1, by rw [hat e (by omega) (by omega)]; exact a2, b 3 (by decide) (by decide), b 4 (by decide) (by decide), b 5 (by decide) (by decide), b 6 (by decide) (by decide), b 7 (by decide) (by decide), b 8 (by decide) (by decide)⟩
  · have hek : mem2 e k = e + 1 + (if k = 18 then 8 else k - 9) := by
      by_cases u : k = 18
      · rw [u, h18]; simp; omega
      · rw [if_neg u, hrw k u1 (by omega)]; omega
    obtain ⟨i, hi⟩ : ∃ y : Int, y = (if k = 18 then 8 else k - 9) := ⟨_, rfl⟩
    have hi2 : 0 ≤ i ∧ i < 9 ∧ (k = 18 → i = 8) ∧ (k ≠ 18 → i = k - 9) := by
      rw [hi]; split <;> omega
    rw [hek, ← hi]
    have er := hE2.2 (e + 1 + i) (by omega)
    have hri := hr i hi2.1 hi2.2.1
    refine ⟨er.1.trans (hri.1.trans ?_), er.2.trans hri.2, by omega, by omega, ?_⟩
    · unfold k9 kRow
      by_cases u : k = 13 ∨ k = 14 ∨ k = 15 ∨ k = 18
      · rw [if_pos u, if_pos (by omega)]
      · rw [if_neg u, if_neg (by omega)]
    · rw [tgN_n (by omega), he, show (sz : Int) + 1 + i - sz = i + 1 by omega, if_neg (by omega)]
      by_cases u : k = 18
      · rw [if_pos (by omega), u]; omega
      · rw [if_neg (by omega)]; omega
  · rw [← hP, m5] at u2
    rw [← hP]
    have q := m12 k u1 u2
    have g := b3 k u1 u2
    have g3 := hc3 k u1 u2
    have hXk := hXP k u1 u2
    have em : ∀ b : Int, e ≤ b → b < e + 10 → mem2 b k = mem1 b k := fun b w1 w2 => hat b w1 w2 k
    have rr : ∀ i j : Int, 9 ≤ i → i ≤ 16 → j = e + (i - 8) → mem2 (mem2 e i) k = mem1 j k := fun i j w1 w2 w3 => by rw [hrw i w1 w2, ← w3]; exact em j (by omega) (by omega)
    rw [rr 9 (e + 1) (by decide) (by decide) (by omega), rr 10 (e + 2) (by decide) (by decide) (by omega), rr 11 (e + 3) (by decide) (by decide) (by omega), rr 12 (e + 4) (by decide) (by decide) (by omega), rr 13 (e + 5) (by decide) (by decide) (by omega), rr 14 (e + 6) (by decide) (by decide) (by omega), rr 15 (e + 7) (by decide) (by decide) (by omega), rr 16 (e + 8) (by decide) (by decide) (by omega)]
    obtain ⟨q1, q2, q3, q4, q5⟩ := q
    obtain ⟨g1, g2, g4, g5⟩ := g
    rw [show e + 1 + 1 = e + 2 by omega] at g2
    rw [show e + 1 + 2 = e + 3 by omega] at g4
    rw [show e + 1 + 3 = e + 4 by omega] at g5
    refine ⟨g1.trans q1.symm, g2.trans q2.symm, g4.trans q3.symm, g5.trans q5.symm, by rw [q4, q5], hnr k u1 u2, ?_, ?_, ?_, by rw [q3]; exact g3.2.1, by rw [q3]; exact g3.2.2, ?_⟩
    · rw [b6 k u1 u2]
      unfold numT
      rw [m7, m10]
      have hb := blk_st (m := wA T L 109) (n := k) (by omega) u1
      exact numF_cg (by omega) (by omega) u1 (fun i v1 v2 => hnr i (by omega) (by omega)) (fun i c v1 v2 v3 v4 v5 => b5 _ (by omega) (by omega))
    · rw [(b4 k u1 u2).2, hrv k]
      exact qV_near _ (by omega) (by omega)
    · rw [(b7 k).1, slB_cg (M := mem) (M' := M') _ (fun s _ _ => ⟨m1 63 s (by omega) (by omega) (by omega) (by omega) (by omega), m1 64 s (by omega) (by omega) (by omega) (by omega) (by omega)⟩), m1 35 45 (by omega) (by omega) (by omega) (by omega) (by omega)]
      exact (slB_no _ (fun s w1 w2 => by have := (hI.sls).2.2 s w1 (by omega); omega)).symm
    · rw [q5]
      have hdv : InI (k / wA T L 109) := by
        have y1 := Int.ediv_nonneg (a := k) (b := wA T L 109) u1 (by omega)
        have y2 := Int.ediv_le_self (wA T L 109) u1
        omega
      exact wB_in 116 (by omega) hdv (by omega) hL hfa
  · rw [hat e (by omega) (by omega), a17]
  · rw [m1 82 _ (by omega) (by omega) (by omega) (by omega) (by omega)]
    exact hI.st0 _ (by omega) (by omega)
  · rw [h18, hat (e + 9) (by omega) (by omega), (b7 k).2]
    refine ⟨by omega, fun j w1 w2 => ?_⟩
    rw [pvN_cg (M := mem) (M' := M') _ (fun s _ _ => ⟨m1 84 s (by omega) (by omega) (by omega) (by omega) (by omega), m1 85 s (by omega) (by omega) (by omega) (by omega) (by omega), m1 86 s (by omega) (by omega) (by omega) (by omega) (by omega), m1 87 s (by omega) (by omega) (by omega) (by omega) (by omega)⟩), m1 35 72 (by omega) (by omega) (by omega) (by omega) (by omega), pvN_no _ (fun s v1 v2 => by have := hI.prg s v1 (by omega); omega)]
    unfold nibG
    rw [Int.zero_ediv]; rfl
end
section
variable {kd kd' : Int → Nat} {ln ln' : Int → Int} {mem m1 m2 m3 m4 m5 m6 m7 : Int → Int → Int} {sz : Nat} {e f w n L cv : Int} {T : Int → Int}
/-- a page's object, just made -/
def PGA (kd : Int → Nat) (ln : Int → Int) (m mem : Int → Int → Int) (sz : Nat) (e f w n : Int) : Prop := (m e 0 = f ∧ m e 1 = w ∧ m e 2 = n ∧ m e 17 = -1 ∧ m e 18 = e + 9) ∧ (∀ k : Int, 9 ≤ k → k ≤ 16 → m e k = e + 1 + (k - 9)) ∧ (∀ i : Int, 0 ≤ i → i < 9 → kd (e + 1 + i) = k9 i ∧ ln (e + 1 + i) = 40 ∧ ∀ j : Int, m (e + 1 + i) j = 0) ∧ ∀ b j : Int, b < sz → m b j = mem b j
def PGB (m mem : Int → Int → Int) (sz : Nat) (e f w n : Int) (T : Int → Int) (L : Int) : Prop := (m e 0 = f ∧ m e 1 = w ∧ m e 2 = n ∧ m e 17 = -1 ∧ m e 18 = e + 9) ∧ (m e 3 = wA T L 97 ∧ m e 4 = wA T L 111 ∧ m e 5 = wA T L 112 ∧ m e 6 = wA T L 99 ∧ m e 7 = wA T L 109 ∧ m e 8 = wA T L 102) ∧ (∀ k : Int, 9 ≤ k → k ≤ 16 → m e k = e + 1 + (k - 9)) ∧ (∀ i j : Int, 4 ≤ i → i < 9 → m (e + 1 + i) j = 0) ∧ (∀ b j : Int, b < sz → b ≠ 7 → m b j = mem b j) ∧ EB m
theorem PGA.hd (hA : PGA kd ln m1 mem sz e f w n) (hH : HDX m1 m2 e T L 9) (he : e = sz) (hs : 101 ≤ sz) : PGB m2 mem sz e f w n T L := by
  obtain ⟨⟨a0, a1, a2, a17, a18⟩, b, c, d⟩ := hA
  obtain ⟨h1, h2, h3⟩ := hH
  have x : ∀ j : Int, ¬ (3 ≤ j ∧ j ≤ 8) → m2 e j = m1 e j := fun j u => h1 e j (by omega) (fun y => u y.2)
  refine ⟨⟨(x 0 (by omega)).trans a0, (x 1 (by omega)).trans a1, (x 2 (by omega)).trans a2, (x 17 (by omega)).trans a17, (x 18 (by omega)).trans a18⟩, ⟨h3 3 (by decide) (by decide), h3 4 (by decide) (by decide), h3 5 (by decide) (by decide), h3 6 (by decide) (by decide), h3 7 (by decide) (by decide), h3 8 (by decide) (by decide)⟩, fun k u1 u2 => (x k (by omega)).trans (b k u1 u2), fun i j u1 u2 => (h1 _ j (by omega) (by omega)).trans ((c i (by omega) u2).2.2 j), fun b j u1 u2 => (h1 b j u2 (by omega)).trans (d b j u1), h2⟩
theorem PGB.lnn (hB : PGB m2 mem sz e f w n T L) (hF : FLF m2 m3 (e + 1)) (he : e = sz) (hs : 101 ≤ sz) : PGB m3 mem sz e f w n T L := by
  obtain ⟨⟨a0, a1, a2, a17, a18⟩, ⟨a3, a4, a5, a6, a7, a8⟩, b, c, d, _⟩ := hB
  obtain ⟨h1, h2⟩ := hF
  have x : ∀ j : Int, m3 e j = m2 e j := fun j => h1 e j (by omega) (by omega)
  refine ⟨⟨(x 0).trans a0, (x 1).trans a1, (x 2).trans a2, (x 17).trans a17, (x 18).trans a18⟩, ⟨(x 3).trans a3, (x 4).trans a4, (x 5).trans a5, (x 6).trans a6, (x 7).trans a7, (x 8).trans a8⟩, fun k u1 u2 => (x k).trans (b k u1 u2), fun i j u1 u2 => (h1 _ j (by omega) (by omega)).trans (c i j u1 u2), fun b j u1 u2 => (h1 b j u2 (by omega)).trans (d b j u1 u2), h2⟩
theorem PGB.pb (hB : PGB m2 mem sz e f w n T L) (hc : 1 ≤ w ∧ w ≤ 9999 ∧ 2 ≤ n ∧ n ≤ 40) (hH : pgC2 T L w n) : PB m2 e ∧ m2 e 1 + (m2 e 2 - 1) * m2 e 3 ≤ 9999 ∧ m2 e 1 + 39 * m2 e 3 ≤ 99999 := by
  obtain ⟨⟨a0, a1, a2, a17, a18⟩, ⟨a3, a4, a5, a6, a7, a8⟩, -⟩ := hB
  show (2 ≤ m2 e 2 ∧ m2 e 2 ≤ 40 ∧ 1 ≤ m2 e 1 ∧ m2 e 1 ≤ 9999 ∧ 1 ≤ m2 e 3 ∧ m2 e 3 ≤ 50 ∧ 1 ≤ m2 e 4 ∧ m2 e 4 ≤ 4 ∧ 0 ≤ m2 e 5 ∧ m2 e 5 ≤ 5 ∧ 0 ≤ m2 e 6 ∧ m2 e 5 + m2 e 6 ≤ 6 ∧ m2 e 4 + 2 ≤ m2 e 7 ∧ m2 e 7 ≤ 40 ∧ 0 ≤ m2 e 8 ∧ m2 e 8 ≤ 2) ∧ _
  rw [a1, a2, a3, a4, a5, a6, a7, a8]
  have h := hH
  exact ⟨⟨by omega, by omega, by omega, by omega, by omega, by omega, by omega, by omega, by omega, by omega, by omega, by omega, by omega, by omega, by omega, by omega⟩, h.2.2.2.2.2.2, by omega⟩
set_option maxHeartbeats 1000000 in
theorem PFL.mk (h2 : PGB m2 mem sz e f w n T L) (hB : PGB m3 mem sz e f w n T L) (hFR : ∀ k : Int, 0 ≤ k → k < m2 e 2 → FLR m3 (e + 1) T L (m2 e 3) (m2 e 7) (m2 e 1) k) (hRC : RCK m3 m4 e cv (m3 e 2)) (hcv : m3 cv 0 = mem 36 f ∧ m3 cv 1 = mem 37 f ∧ m3 cv 2 = mem 38 f) (hBG : m5 = fillM m4 13 200 0) (hMK : FPG m5 m6 e (m5 e 2)) (hCP : m7 = cpyM m6 11 (m6 e 14) 0 0 40) (he : e = sz) (hs : 101 ≤ sz) (hn : n ≤ 40) : PFL m7 mem e f w n T L ∧ (∀ b j : Int, b < sz → b ≠ 7 → b ≠ 11 → b ≠ 12 → b ≠ 13 → m7 b j = mem b j) ∧ EB m7 := by
  obtain ⟨⟨x0, x1, x2, x17, x18⟩, ⟨x3, x4, x5, x6, x7, x8⟩, -⟩ := h2
  obtain ⟨⟨a0, a1, a2, a17, a18⟩, ⟨a3, a4, a5, a6, a7, a8⟩, b, c, d, hEB⟩ := hB
  obtain ⟨r1, r2⟩ := hRC
  obtain ⟨k1, k2, -⟩ := hMK
  have b13 := b 13 (by decide) (by decide)
  have b15 := b 15 (by decide) (by decide)
  have b14 := b 14 (by decide) (by decide)
  rw [b13, b15] at r1
  rw [b13, b15, hcv.1, hcv.2.1, hcv.2.2, a1, a3, a5, a6, a8, a2] at r2
  have y4 : ∀ x j : Int, x ≠ e + 5 → x ≠ e + 7 → m4 x j = m3 x j := fun x j u1 u2 => r1 x j (by omega) (by omega)
  have y5 : ∀ x j : Int, x ≠ 13 → m5 x j = m4 x j := fun x j u => by rw [hBG]; exact if_neg (fun q => u q.1)
  have y6 : ∀ x j : Int, x ≠ 11 → x ≠ 12 → x ≠ 13 → m6 x j = m4 x j := fun x j u1 u2 u3 => (k1 x j u1 u2).trans (y5 x j u3)
  have e14 : m6 e 14 = e + 6 := by rw [y6 e 14 (by omega) (by omega) (by omega), y4 e 14 (by omega) (by omega), b14]; omega
  have y7 : ∀ x j : Int, x ≠ 11 → x ≠ 12 → x ≠ 13 → x ≠ e + 6 → m7 x j = m4 x j := fun x j u1 u2 u3 u4 => by rw [hCP, e14]; exact (if_neg (fun q => u4 q.1)).trans (y6 x j u1 u2 u3)
  have yy : ∀ x j : Int, x ≠ 11 → x ≠ 12 → x ≠ 13 → x ≠ e + 5 → x ≠ e + 6 → x ≠ e + 7 → m7 x j = m3 x j := fun x j u1 u2 u3 u4 u5 u6 => (y7 x j u1 u2 u3 u5).trans (y4 x j u4 u6)
  have ye : ∀ j : Int, m7 e j = m3 e j := fun j => yy e j (by omega) (by omega) (by omega) (by omega) (by omega) (by omega)
  have e52 : m5 e 2 = n := by rw [y5 e 2 (by omega), y4 e 2 (by omega) (by omega), a2]
  have e13 : m5 e 13 = e + 5 := by rw [y5 e 13 (by omega), y4 e 13 (by omega) (by omega), b13]; omega
  have e4 : m5 e 4 = wA T L 111 := by rw [y5 e 4 (by omega), y4 e 4 (by omega) (by omega), a4]
  have e7 : m5 e 7 = wA T L 109 := by rw [y5 e 7 (by omega), y4 e 7 (by omega) (by omega), a7]
  rw [e52, e13, e4, e7] at k2
  have f5 : m7 (e + 5) = m5 (e + 5) := funext fun j => by rw [y7 _ j (by omega) (by omega) (by omega) (by omega), y5 _ j (by omega)]
  refine ⟨⟨⟨(ye 0).trans a0, (ye 1).trans a1, (ye 2).trans a2, (ye 17).trans a17, (ye 18).trans a18⟩, fun i u1 u2 => ?_, fun k u1 u2 => (ye k).trans (b k u1 u2), fun k u1 u2 => ?_, fun k u1 u2 => ?_, ⟨m5 13, fun j u1 u2 => by rw [hBG]; exact if_pos ⟨rfl, u1, u2⟩, fun k u1 u2 => ?_⟩, fun k => ?_⟩, fun x j u1 u2 u3 u4 u5 => ?_, ?_⟩
  · rw [ye i]
    rcases (show i = 3 ∨ i = 4 ∨ i = 5 ∨ i = 6 ∨ i = 7 ∨ i = 8 by omega) with u | u | u | u | u | u <;> subst u <;> assumption
  · have q := hFR k u1 (by rw [x2]; exact u2)
    rw [x3, x7, x1] at q
    unfold FLR at *
    rw [yy _ k (by omega) (by omega) (by omega) (by omega) (by omega) (by omega), yy _ k (by omega) (by omega) (by omega) (by omega) (by omega) (by omega), yy _ k (by omega) (by omega) (by omega) (by omega) (by omega) (by omega), yy _ k (by omega) (by omega) (by omega) (by omega) (by omega) (by omega)]
    exact q
  · have q := r2 k u1 u2
    rw [y7 _ k (by omega) (by omega) (by omega) (by omega), y7 _ k (by omega) (by omega) (by omega) (by omega)]
    rw [show e + 1 + (13 - 9) = e + 5 by omega, show e + 1 + (15 - 9) = e + 7 by omega] at q
    exact q
  · have q : m7 (e + 6) k = m6 11 (0 + (k - 0)) := by rw [hCP, e14]; exact if_pos ⟨rfl, u1, by omega⟩
    rw [q, show (0 : Int) + (k - 0) = k by omega, k2 k u1 u2, f5]
  · rw [yy _ k (by omega) (by omega) (by omega) (by omega) (by omega) (by omega), yy _ k (by omega) (by omega) (by omega) (by omega) (by omega) (by omega)]
    have c7 := c 7 k (by decide) (by decide)
    have c8 := c 8 k (by decide) (by decide)
    rw [show e + 1 + 7 = e + 8 by omega] at c7
    rw [show e + 1 + 8 = e + 9 by omega] at c8
    exact ⟨c7, c8⟩
  · rw [yy x j u3 u4 u5 (by omega) (by omega) (by omega)]
    exact d x j u1 u2
  · unfold EB at *
    rw [yy 7 3 (by omega) (by omega) (by omega) (by omega) (by omega) (by omega), yy 7 4 (by omega) (by omega) (by omega) (by omega) (by omega) (by omega), yy 7 5 (by omega) (by omega) (by omega) (by omega) (by omega) (by omega)]
    exact hEB
end
set_option maxHeartbeats 4000000 in
theorem GRP.pgf {kd kd2 : Int → Nat} {ln ln2 : Int → Int} {mem mem2 M M' : Int → Int → Int} {sz sz2 : Nat} {tg tg2 : Int → Int} (h : GRP kd ln mem sz tg M) (hMI : MI M) (hs : 101 ≤ sz) (eT : EXT kd ln sz kd2 ln2 sz2) (htg : TGX sz tg tg2) (hc : ∀ a j : Int, (a = 3 ∧ j ≤ 5) ∨ a = 4 ∨ (a = 5 ∧ j = 1) ∨ a = 6 ∨ (27 ≤ a ∧ a ≤ 34) ∨ (101 ≤ a ∧ a < sz) → mem2 a j = mem a j) (he : ∀ x j : Int, SC x j → ¬ (54 ≤ x ∧ x ≤ 58 ∧ 40 * M 35 33 ≤ j) → M' x j = M x j) : GRP kd2 ln2 mem2 sz2 tg2 M' := by
  obtain ⟨h0, h27, h28, h29, h30, h31, h32, h33, h34⟩ := h
  obtain ⟨-, -, -, -, -, hPS, hPF, hSL, -, -, -, -, -, -, -, -, -, -, hCP, -⟩ := id hMI
  have hAA : ∀ L' : Int, 27 ≤ L' → L' ≤ 34 → L' ≠ 100 → AG sz tg mem mem2 L' := fun L q1 q2 _ => ⟨funext fun j => hc L j (by omega), fun a w1 w2 _ _ => funext fun j => hc a j (by omega)⟩
  have hl27 := h27.len
  have hl28 := h28.len
  have hl29 := h29.len
  have hl30 := h30.len
  have hl31 := h31.len
  have hl32 := h32.len
  have hl33 := h33.len
  have hl34 := h34.len
  have hob : ∀ (L' i a : Int), OWN sz tg a (L' * 10000 + 100 * (i + 1)) → 27 ≤ L' ∧ L' ≤ 34 → 0 ≤ i ∧ i ≤ 63 → mem2 a = mem a := fun L' i a q1 q2 q3 => (hAA L' (by omega) (by omega) (by omega)).own q1 (by omega)
  have hPGE : ∀ P : Int, 0 ≤ P → P < M 35 33 → PGE M M' P := fun P q1 q2 => by
    have w1 := hPF P q1 q2
    have w2 := hPS.2.2 P q1 (by omega)
    refine ⟨fun k u1 u2 => he k P (by omega) (by omega), fun k u1 u2 => he k _ (by omega) (by omega), fun k n u1 u2 u3 u4 => he k _ (by omega) (by omega), fun n u1 u2 => ?_, he 82 P (by omega) (by omega), fun n u1 u2 => he 83 _ (by omega) (by omega), fun n j u1 u2 u3 u4 => ?_⟩
    · rw [he 35 45 (by omega) (by omega)]
      exact slB_cg _ (fun s _ _ => ⟨he 63 s (by omega) (by omega), he 64 s (by omega) (by omega)⟩)
    · rw [he 35 72 (by omega) (by omega)]
      exact pvN_cg _ (fun s _ _ => ⟨he 84 s (by omega) (by omega), he 85 s (by omega) (by omega), he 86 s (by omega) (by omega), he 87 s (by omega) (by omega)⟩)
  refine ⟨?_, ?_, ?_, ?_, ?_, ?_, ?_, ?_, ?_⟩
  · obtain ⟨⟨g1, g2, g3, g4, g5, g6⟩, g7, g8, g9, g10⟩ := h0
    unfold RN
    rw [show mem2 4 = mem 4 from funext fun j => hc 4 j (by omega), hc 5 1 (by omega), show mem2 6 = mem 6 from funext fun j => hc 6 j (by omega), hc 3 0 (by omega), hc 3 1 (by omega), hc 3 2 (by omega), hc 3 3 (by omega), hc 3 4 (by omega), hc 3 5 (by omega)]
    refine ⟨⟨?_, ?_, ?_, ?_, ?_, ?_⟩, fun x y q1 q2 q3 q4 => ?_, ?_, ?_, g10⟩
    · rw [he 35 0 (by omega) (by omega)]; exact g1
    · rw [he 35 2 (by omega) (by omega)]; exact g2
    · rw [he 35 46 (by omega) (by omega)]; exact g3
    · rw [he 35 89 (by omega) (by omega)]; exact g4
    · rw [he 35 72 (by omega) (by omega)]; exact g5
    · rw [he 35 65 (by omega) (by omega)]; exact g6
    · rw [g7 x y q1 q2 q3 q4]
      unfold leftV leftW
      rw [he 35 65 (by omega) (by omega), lsN_cg _ (fun s _ _ => ⟨he 77 s (by omega) (by omega), he 78 s (by omega) (by omega)⟩), he 79 _ (by omega) (by omega), he 80 _ (by omega) (by omega), he 81 _ (by omega) (by omega)]
    · rw [he 35 11 (by omega) (by omega)]; exact g8
    · rw [g9]; exact (funext fun j => he 39 j (by omega) (by omega)).symm
  · exact h27.fr eT htg (hAA 27 (by decide) (by decide) (by decide)) (by omega) (he 35 6 (by omega) (by omega)) (fun i a q1 q2 q3 q4 => q4.tr (hob 27 i a q3 (by omega) (by omega)) (he 36 i (by omega) (by omega)) (he 37 i (by omega) (by omega)) (he 38 i (by omega) (by omega)))
  · exact h28.fr eT htg (hAA 28 (by decide) (by decide) (by decide)) (by omega) (he 35 16 (by omega) (by omega)) (fun i a q1 q2 q3 q4 => q4.tr eT htg ⟨q1, by omega⟩ (hAA 28 (by decide) (by decide) (by decide)).r (hob 28 i a q3 (by omega) (by omega)) (Or.inl (funext fun j => he 41 j (by omega) (by omega))) (he 42 i (by omega) (by omega)))
  · exact h29.fr eT htg (hAA 29 (by decide) (by decide) (by decide)) (by omega) (he 35 33 (by omega) (by omega)) (fun i a q1 q2 q3 q4 => q4.tr eT htg ⟨q1, by omega⟩ (hAA 29 (by decide) (by decide) (by decide)).r (hob 29 i a q3 (by omega) (by omega)) (hPGE i q1 q2))
  · exact h30.fr eT htg (hAA 30 (by decide) (by decide) (by decide)) (by omega) (he 35 45 (by omega) (by omega)) (fun i a q1 q2 q3 q4 => q4.tr (hob 30 i a q3 (by omega) (by omega)) (fun k w1 w2 => he k i (by omega) (by omega)))
  · exact h31.fr eT htg (hAA 31 (by decide) (by decide) (by decide)) (by omega) (he 35 79 (by omega) (by omega)) (fun i a q1 q2 q3 q4 => q4.tr eT htg ⟨q1, by omega⟩ (hAA 31 (by decide) (by decide) (by decide)).r (hob 31 i a q3 (by omega) (by omega)) (he 88 i (by omega) (by omega)) (by have := hCP.2.2 i q1 (by omega); exact he 47 _ (by omega) (by omega)) (fun n w1 w2 => by have := hCP.2.2 i q1 (by omega); have := hPS.2.2 (M 88 i) (by omega) (by omega); exact he 89 _ (by omega) (by omega)))
  · exact h32.fr eT htg (hAA 32 (by decide) (by decide) (by decide)) (by omega) (he 35 84 (by omega) (by omega)) (fun i a q1 q2 q3 q4 => q4.tr eT htg ⟨q1, by omega⟩ (hAA 32 (by decide) (by decide) (by decide)).r (hob 32 i a q3 (by omega) (by omega)) (he 94 i (by omega) (by omega)) (fun n w1 w2 => ⟨he 95 _ (by omega) (by omega), he 96 _ (by omega) (by omega)⟩))
  · exact h33.fr eT htg (hAA 33 (by decide) (by decide) (by decide)) (by omega) (he 35 80 (by omega) (by omega)) (fun i a q1 q2 q3 q4 => q4.tr (hob 33 i a q3 (by omega) (by omega)) (fun k w1 w2 => he k i (by omega) (by omega)))
  · exact h34.fr eT htg (hAA 34 (by decide) (by decide) (by decide)) (by omega) (he 35 88 (by omega) (by omega)) (fun i a q1 q2 q3 q4 => q4.tr eT htg ⟨q1, by omega⟩ (hAA 34 (by decide) (by decide) (by decide)).r (hob 34 i a q3 (by omega) (by omega)) (he 97 i (by omega) (by omega)) (he 98 i (by omega) (by omega)) (fun n w1 w2 => he 99 _ (by omega) (by omega)))
set_option maxHeartbeats 4000000 in
set_option maxRecDepth 100000 in
theorem c_X11_page {l : Launch} {g : GP} (hG : GH g) {kd : Int → Nat} {ln : Int → Int} {mem : Int → Int → Int} {sz : Nat} (hK : HK kd ln) (hR : HR mem) (f w n t : Int) (tg : Int → Int) (hI : INV kd ln mem sz tg) (hTN : TNS g) (hEM : EMP g) (mi : Nat) (hMI : va_Mi "[Ljava/lang/Object;" mi (gs g)) (h_f : InI f) (h_w : InI w) (h_n : InI n) (h_t : InI t) : MT l g yX11_page cX11_page 7 (some .int) 29 11 479 [(2, 3), (0, f), (0, w), (0, n), (0, t)] kd ln mem sz (pXR 0 (fun v kd' ln' mem' sz' => HR mem' ∧ (((pgC1 mem f w n t ∧ pgC2 (tTT mem t) (tLL mem t) w n ∧ pgC3 (tTT mem t) (tLL mem t) w n) → v = mem 35 33 ∧ ∀ M' : Int → Int → Int, PGM mem M' (tTT mem t) (tLL mem t) f w n → GRX kd' ln' mem' sz' M') ∧ (¬ (pgC1 mem f w n t ∧ pgC2 (tTT mem t) (tLL mem t) w n ∧ pgC3 (tTT mem t) (tLL mem t) w n) → v = -1 ∧ ∀ M' : Int → Int → Int, PGF mem M' → GRX kd' ln' mem' sz' M') ∧ MKP mem mem')) kd ln sz) := by
  refine MT_of hG (by decide +kernel) (Nat.le_of_ble_eq_true rfl) (fun z hF hr hn => ?_)
  obtain ⟨⟨q0, q1, q2, q3, q4, q5⟩, u0, u2, u46, u89, usz⟩ := hI.num
  have n27 : 0 ≤ mem 35 6 ∧ mem 35 6 ≤ 10 := ⟨hI.fns.1, hI.fns.2.1⟩
  have n29 : 0 ≤ mem 35 33 ∧ mem 35 33 ≤ 12 := ⟨hI.pgs.1, hI.pgs.2.1⟩
  obtain ⟨e27, k27, r27, b27, c27⟩ := hI.g27.ls
  obtain ⟨e29, k29, r29, b29, c29⟩ := hI.g29.ls
  refine jblk hF [(.aload_n 0, 1), (.iload 4, 2)] (by decide +kernel) (pc' := 3) (lo' := [(0, (2, 3)), (1, (0, f)), (2, (0, w)), (3, (0, n)), (4, (0, t))]) (st' := [(0, t), (2, 3)]) rfl ?_
  refine jcallV hF (c_X11_planAt hG hK hR t (by exact tg) (by assumption) (by omega)) MW_X11_planAt 12 (by decide) (by exact hK.k3) wd_684 wd_686 wd_p20 (by decide +kernel) [] rfl rfl (by decide) (Nat.le_of_ble_eq_true rfl) (by decide) (kR (fun v_1 h_2 => ?_))
  have hv := h_2
  refine jblk hF [(.astore 5, 2), (.iload_n 1, 1), (.iconst 0, 1), (.aload_n 0, 1)] (by decide +kernel) (pc' := 11) (lo' := [(5, (2, v_1)), (0, (2, 3)), (1, (0, f)), (2, (0, w)), (3, (0, n)), (4, (0, t))]) (st' := [(2, 3), (0, 0), (0, f)]) rfl ?_
  refine jget hF 12 12 2 12 rfl (by decide) (by decide) rfl wd_338 (by decide +kernel) (by exact hK.k3) ?_
  rw [HR.r3_12 hR]
  refine jcallV hF (c_Jx4a65c_size_8abf5 hG 27 (by first | assumption | omega)) MW_Jx4a65c_size_8abf5 0 (by decide) (by exact hK.k27) wd_410 wd_411 wd_412 (by decide +kernel) [(0, 0), (0, f)] rfl rfl (by decide) (Nat.le_of_ble_eq_true rfl) (by decide) (kV ?_)
  rw [e27]
  refine jblk hF [(.iconst 1, 1), (.isub, 1)] (by decide +kernel) (pc' := 19) (lo' := [(5, (2, v_1)), (0, (2, 3)), (1, (0, f)), (2, (0, w)), (3, (0, n)), (4, (0, t))]) (st' := [(0, (mem 35 6) - 1), (0, 0), (0, f)]) rfl ?_
  refine jcallS hF (c_X11_within hG f 0 ((mem 35 6) - 1) (by omega) (by decide) (by omega)) MW_X11_within wd_391 wd_392 (by decide +kernel) [] rfl rfl (by decide) (Nat.le_of_ble_eq_true rfl) (by decide) (kB (fun h_3 => ?_) (fun h_3 => ?_))
  · refine jif_eq hF (off := 41) 63 (by decide +kernel) (by decide) (by decide) (fun h => absurd h (by decide)) (fun _ => ?_)
    refine jblk hF [(.aload 5, 2)] (by decide +kernel) (pc' := 27) (lo' := [(5, (2, v_1)), (0, (2, 3)), (1, (0, f)), (2, (0, w)), (3, (0, n)), (4, (0, t))]) (st' := [(2, v_1)]) rfl ?_
    refine jnull hF (off := 36) 63 (by decide +kernel) (by decide) (fun h_5 => ?_) (fun h_5 => ?_)
    · have hng : ¬ (pgC1 mem f w n t ∧ pgC2 (tTT mem t) (tLL mem t) w n ∧ pgC3 (tTT mem t) (tLL mem t) w n) := fun u => by first | omega | (have := u.1; omega) | exact (hv.2 (by omega)).1 u.1.2.2.2.1
      refine jblk hF [(.iconst (-1), 1)] (by decide +kernel) (pc' := 64) (lo' := [(5, (2, v_1)), (0, (2, 3)), (1, (0, f)), (2, (0, w)), (3, (0, n)), (4, (0, t))]) (st' := [(0, (-1))]) rfl ?_
      refine jwiden (k := 11) (n := 479) (Nat.le_of_ble_eq_true rfl) (Nat.le_of_ble_eq_true rfl) ?_
      refine jiret hF hr (by decide +kernel) ?_
      exact ⟨_, rfl, EXT.rf, ⟨hR, by exact ⟨fun u => absurd u hng, fun _ => ⟨rfl, fun M' hM => ⟨tg, hI.2.2.pgf hI.2.1 usz EXT.rf (fun _ _ => rfl) (fun _ _ _ => rfl) (fun x j q1 q2 => hM x j (by omega) (by omega) (by omega) (by omega))⟩⟩, MKP.rf hI⟩⟩⟩
    · refine jblk hF [(.iload_n 2, 1), (.iconst 1, 1), (.sipush 9999, 3)] (by decide +kernel) (pc' := 35) (lo' := [(5, (2, v_1)), (0, (2, 3)), (1, (0, f)), (2, (0, w)), (3, (0, n)), (4, (0, t))]) (st' := [(0, 9999), (0, 1), (0, w)]) rfl ?_
      refine jcallS hF (c_X11_within hG w 1 9999 (by omega) (by decide) (by decide)) MW_X11_within wd_391 wd_392 (by decide +kernel) [] rfl rfl (by decide) (Nat.le_of_ble_eq_true rfl) (by decide) (kB (fun h_6 => ?_) (fun h_6 => ?_))
      · refine jif_eq hF (off := 25) 63 (by decide +kernel) (by decide) (by decide) (fun h => absurd h (by decide)) (fun _ => ?_)
        refine jblk hF [(.iload_n 3, 1), (.iconst 2, 1), (.bipush 40, 2)] (by decide +kernel) (pc' := 45) (lo' := [(5, (2, v_1)), (0, (2, 3)), (1, (0, f)), (2, (0, w)), (3, (0, n)), (4, (0, t))]) (st' := [(0, 40), (0, 2), (0, n)]) rfl ?_
        refine jcallS hF (c_X11_within hG n 2 40 (by omega) (by decide) (by decide)) MW_X11_within wd_391 wd_392 (by decide +kernel) [] rfl rfl (by decide) (Nat.le_of_ble_eq_true rfl) (by decide) (kB (fun h_8 => ?_) (fun h_8 => ?_))
        · refine jif_eq hF (off := 15) 63 (by decide +kernel) (by decide) (by decide) (fun h => absurd h (by decide)) (fun _ => ?_)
          refine jblk hF [(.aload_n 0, 1)] (by decide +kernel) (pc' := 52) (lo' := [(5, (2, v_1)), (0, (2, 3)), (1, (0, f)), (2, (0, w)), (3, (0, n)), (4, (0, t))]) (st' := [(2, 3)]) rfl ?_
          refine jget hF 12 14 2 14 rfl (by decide) (by decide) rfl wd_340 (by decide +kernel) (by exact hK.k3) ?_
          rw [HR.r3_14 hR]
          refine jcallV hF (c_Jx4a65c_size_8abf5 hG 29 (by first | assumption | omega)) MW_Jx4a65c_size_8abf5 0 (by decide) (by exact hK.k29) wd_410 wd_411 wd_412 (by decide +kernel) [] rfl rfl (by decide) (Nat.le_of_ble_eq_true rfl) (by decide) (kV ?_)
          rw [e29]
          refine jblk hF [(.bipush 12, 2)] (by decide +kernel) (pc' := 60) (lo' := [(5, (2, v_1)), (0, (2, 3)), (1, (0, f)), (2, (0, w)), (3, (0, n)), (4, (0, t))]) (st' := [(0, 12), (0, mem 35 33)]) rfl ?_
          refine jicmp_lt hF (off := 5) 65 (by decide +kernel) (by decide) (by omega) (by decide) (fun h_10 => ?_) (fun h_10 => ?_)
          · obtain ⟨htr, hpl⟩ := hv.1 (by omega)
            have hcc : pgC1 mem f w n t := by omega
            have htx := hpl.ttx
            obtain ⟨T, hT⟩ : ∃ y : Int → Int, y = mem (mem v_1 0) := ⟨_, rfl⟩
            obtain ⟨L, hL⟩ : ∃ y : Int, y = mem v_1 1 := ⟨_, rfl⟩
            obtain ⟨r, hrr⟩ : ∃ y : Int, y = mem v_1 0 := ⟨_, rfl⟩
            have hfa := hpl.2.2.1.2.2.2.2.2.2.1
            have hTT : tTT mem t = T := by rw [hT]; unfold tTT; rw [← hpl.2.2.2]
            have hLL : tLL mem t = L := by rw [hL]; unfold tLL; rw [← hpl.2.2.2]
            have hrs := hpl.2.2.1.2.1
            have hvs := hpl.2.1
            rw [← hT, ← hL] at hfa
            rw [← hrr] at hrs hT
            rw [← hL, ← hrr, ← hT] at htx
            rw [hTT, hLL]
            have hL0 : 0 ≤ L := htx.2.2.2.2.2.2.2.1
            refine jnew hF 4 (by decide) okT_4 wd_688 wd_689 wd_122 (by decide +kernel) ⟨Nat.le_of_ble_eq_true rfl, Nat.le_of_ble_eq_true rfl⟩ ?_
            obtain ⟨kd_11, hkd_11⟩ : ∃ q : Int → Nat, q = upK kd ((sz : Nat) : Int) (5) := ⟨_, rfl⟩
            obtain ⟨m_11, hm_11⟩ : ∃ q : Int → Int → Int, q = newO 4 mem ((sz : Nat) : Int) := ⟨_, rfl⟩
            obtain ⟨sz_11, hsz_11⟩ : ∃ q : Nat, q = sz + 1 := ⟨_, rfl⟩
            obtain ⟨a_11, ha_11⟩ : ∃ q : Int, q = ((sz : Nat) : Int) := ⟨_, rfl⟩
            rw [← hkd_11, ← hm_11, ← hsz_11]
            rw [← ha_11]
            have hk_11 : kd_11 a_11 = 5 := by rw [ha_11, hkd_11]; exact if_pos rfl
            have hE_11 : EXT kd ln sz kd_11 ln sz_11 := by rw [hsz_11, hkd_11]; exact EXT.k _
            have hEE_11 : EXT kd ln sz kd_11 ln sz_11 := (EXT.rf).tr hE_11
            have hK_11 : HK kd_11 ln := hK.ext hE_11 (by omega)
            have hR_m_11 : HR m_11 := HR.of hR (fun a k q => by rw [hm_11]; exact newO_o _ (by omega))
            have hmo_11 : ∀ b j : Int, b ≠ a_11 → m_11 b j = mem b j := fun b j q => by rw [hm_11]; exact newO_o j (by rw [← ha_11]; exact q)
            have hmn_11 : ∀ j : Int, m_11 a_11 j = dfl 4 j.toNat := fun j => by rw [hm_11, ha_11]; exact newO_s j
            have hmoA := hmo_11
            have hmnA := hmn_11
            have hEA := hE_11
            have hkA := hk_11
            have haA := ha_11
            have hszA := hsz_11
            have hEEA := hEE_11
            refine jblk hF [(.dup, 1), (.iload_n 1, 1), (.iload_n 2, 1), (.iload_n 3, 1)] (by decide +kernel) (pc' := 72) (lo' := [(5, (2, v_1)), (0, (2, 3)), (1, (0, f)), (2, (0, w)), (3, (0, n)), (4, (0, t))]) (st' := [(0, n), (0, w), (0, f), (2, a_11), (2, a_11)]) rfl ?_
            refine jcallI hF (c_X3_init hG a_11 f w n (by first | assumption | omega) (by omega) (by omega)) MW_X3_init rfl (by first | exact hkex | assumption | omega) wd_690 wd_691 (by decide +kernel) [(2, a_11)] rfl rfl (by decide) (Nat.le_of_ble_eq_true rfl) ⟨Nat.le_of_ble_eq_true rfl, Nat.le_of_ble_eq_true rfl⟩ (kXV (fun kd_12 ln_12 m_12 sz_12 hE_12 h_12 => ?_))
            have hEE_12 : EXT kd ln sz kd_12 ln_12 sz_12 := (hEE_11).tr hE_12
            have hK_12 : HK kd_12 ln_12 := hK_11.ext hE_12 (by omega)
            obtain ⟨t1, t2, t3, t4, t5, t6, t7, t8, t9⟩ := h_12
            have hsn : ((sz_11 : Nat) : Int) = a_11 + 1 := by omega
            rw [hsn] at t6 t7 t8 t9
            have hga : PGA kd_12 ln_12 m_12 mem sz a_11 f w n := ⟨⟨t2, t3, t4, t5, by rw [t7]; omega⟩, t6, t8, fun b j u => (t9 b j (by omega) (by omega)).trans (hmoA b j (by omega))⟩
            have hE0x := hEEA.tr hE_12
            have hszx : sz_12 = sz + 10 := by omega
            clear t1 t2 t3 t4 t5 t6 t7 t8 t9
            have hR_m_12 : HR m_12 := HR.of hR (fun x k u => hga.2.2.2 x k (by omega))
            have hkex := (hE_12.2 a_11 (by omega)).1.trans hkA
            have htx1 : TXT kd_12 ln_12 m_12 v_1 r T L := htx.ext hE0x ⟨hvs.2.1, hrs.2.1⟩ (fun j => hga.2.2.2 _ _ hvs.2.1) (fun j => hga.2.2.2 _ _ hrs.2.1)
            have heb1 : EB m_12 := by (have y := hI.1.2.2.2.2.2; unfold EB at *; rw [hga.2.2.2 7 3 (by omega), hga.2.2.2 7 4 (by omega), hga.2.2.2 7 5 (by omega)]; exact y)
            have h12 : 1 ≤ m_12 a_11 1 ∧ m_12 a_11 1 ≤ 9999 ∧ 2 ≤ m_12 a_11 2 ∧ m_12 a_11 2 ≤ 40 := by (rw [hga.1.2.1, hga.1.2.2.1]; omega)
            have hk7x := hK_12.k7
            refine jblk hF [(.astore 6, 2), (.aload 6, 2), (.aload_n 0, 1)] (by decide +kernel) (pc' := 80) (lo' := [(6, (2, a_11)), (5, (2, v_1)), (0, (2, 3)), (1, (0, f)), (2, (0, w)), (3, (0, n)), (4, (0, t))]) (st' := [(2, 3), (2, a_11)]) rfl ?_
            refine jget hF 12 8 2 8 rfl (by decide) (by decide) rfl wd_334 (by decide +kernel) (by exact hK_12.k3) ?_
            rw [HR.r3_8 hR_m_12]
            refine jblk hF [(.aload 5, 2)] (by decide +kernel) (pc' := 85) (lo' := [(6, (2, a_11)), (5, (2, v_1)), (0, (2, 3)), (1, (0, f)), (2, (0, w)), (3, (0, n)), (4, (0, t))]) (st' := [(2, v_1), (2, 7), (2, a_11)]) rfl ?_
            refine jcallV hF (c_X3_followsHead hG a_11 v_1 (by first | assumption | omega) (by omega) (by exact hk7x) (by exact r) (by exact T) (by exact L) (by exact htx1) (by exact heb1) (by assumption) (by exact h12)) MW_X3_followsHead 4 (by decide) (by first | exact hkex | assumption | omega) wd_768 wd_769 wd_770 (by decide +kernel) [] rfl rfl (by decide) (Nat.le_of_ble_eq_true rfl) (by decide) (kMB (fun m_13 h_14 => ?_) (fun m_13 h_14 => ?_))
            · have h_14_ := h_14
              have hgb := hga.hd h_14.2 haA (by omega)
              have hcH := h_14.1
              rw [hgb.1.2.1, hgb.1.2.2.1, hgb.2.1.1, hgb.2.1.2.1, hgb.2.1.2.2.1, hgb.2.1.2.2.2.1, hgb.2.1.2.2.2.2.1, hgb.2.1.2.2.2.2.2] at hcH
              have hR_m_13 : HR m_13 := HR.of hR_m_12 (fun x k u => h_14.2.1 x k (by omega) (by omega))
              have htx2 := h_14.2.txt htx1 hk7x hkex
              have hRH := hR_m_13
              refine jif_eq hF (off := 17) 105 (by decide +kernel) (by decide) (by decide) (fun h => absurd h (by decide)) (fun _ => ?_)
              have hc2 : pgC2 T L w n := by first | exact hcH.1 trivial | exact hcH.1 (by decide)
              have hpb2 := hgb.pb (by omega) hc2
              have hka4 : ∀ i : Int, 0 ≤ i → i ≤ 3 → kd_12 (a_11 + 1 + i) = 20 ∧ ln_12 (a_11 + 1 + i) = 40 := fun i u1 u2 => by have y := hga.2.2.1 i u1 (by omega); rw [y.1, y.2.1]; unfold k9; exact ⟨if_neg (by omega), rfl⟩
              have hlt4 : 7 < a_11 ∧ a_11 < a_11 + 1 ∧ v_1 < a_11 + 1 ∧ r < a_11 + 1 := by (have := hvs.2.1; have := hrs.2.1; omega)
              refine jblk hF [(.aload 6, 2), (.aload_n 0, 1)] (by decide +kernel) (pc' := 94) (lo' := [(6, (2, a_11)), (5, (2, v_1)), (0, (2, 3)), (1, (0, f)), (2, (0, w)), (3, (0, n)), (4, (0, t))]) (st' := [(2, 3), (2, a_11)]) rfl ?_
              refine jget hF 12 8 2 8 rfl (by decide) (by decide) rfl wd_334 (by decide +kernel) (by exact hK_12.k3) ?_
              rw [HR.r3_8 hR_m_13]
              refine jblk hF [(.aload 5, 2)] (by decide +kernel) (pc' := 99) (lo' := [(6, (2, a_11)), (5, (2, v_1)), (0, (2, 3)), (1, (0, f)), (2, (0, w)), (3, (0, n)), (4, (0, t))]) (st' := [(2, v_1), (2, 7), (2, a_11)]) rfl ?_
              refine jcallV hF (c_X3_followsLines hG a_11 v_1 (by first | assumption | omega) (by omega) (by exact hk7x) (by exact r) (by exact T) (by exact L) (by exact htx2) (by exact hgb.2.2.2.2.2) (by assumption) (by exact a_11 + 1) (by exact fun k u1 u2 => hgb.2.2.1 k u1 (by omega)) (by exact hka4) (by omega) (by exact hpb2.1) (by exact hpb2.2.1)) MW_X3_followsLines 4 (by decide) (by first | exact hkex | assumption | omega) wd_785 wd_786 wd_787 (by decide +kernel) [] rfl rfl (by decide) (Nat.le_of_ble_eq_true rfl) (by decide) (kMB (fun m_16 h_17 => ?_) (fun m_16 h_17 => ?_))
              · have h_17_ := h_17
                have hgc := hgb.lnn h_17.2.1 haA (by omega)
                have hcD := h_17.1
                rw [hgb.1.2.1, hgb.1.2.2.1, hgb.2.1.1, hgb.2.1.2.2.2.2.1] at hcD
                have hfr0 := h_17.2.2
                have hR_m_16 : HR m_16 := HR.of hRH (fun x k u => h_17.2.1.1 x k (by omega) (by omega))
                refine jif_ne hF (off := 5) 107 (by decide +kernel) (by decide) (by decide) (fun _ => ?_) (fun h => absurd h (by decide))
                have hc3 : pgC3 T L w n := hcD.1 trivial
                have hFR := hfr0 trivial
                have hpb3 := hgc.pb (by omega) hc2
                have hcu := hI.cur (f := f) (by omega) (by omega)
                have l27 : mem 27 1 < sz := hI.g27.1.2.2.2.2.1
                have f16 := hgc.2.2.2.2.1
                have hw27 : m_16 (m_16 27 1) f = mem (mem 27 1) f := by rw [f16 27 1 (by omega) (by decide)]; exact f16 _ _ l27 (by intro u; have := hK.k7; rw [u] at r27; omega)
                have hkb27 : kd_12 (m_16 27 1) = 23 := by rw [f16 27 1 (by omega) (by decide)]; exact (hE0x.2 _ l27).1.trans r27
                have hi27 : 0 ≤ f ∧ f < m_16 27 2 ∧ m_16 27 2 ≤ ln_12 (m_16 27 1) ∧ m_16 27 2 ≤ 1000 := by rw [f16 27 1 (by omega) (by decide), f16 27 2 (by omega) (by decide), (hE0x.2 _ l27).2, e27]; omega
                obtain ⟨cv, hcv⟩ : ∃ y : Int, y = mem (mem 27 1) f := ⟨_, rfl⟩
                rw [← hcv] at hcu hw27
                obtain ⟨u1c, u2c, u3c, u4c, u5c⟩ := hcu
                have hck : kd_12 cv = 2 := (hE0x.2 cv u3c).1.trans u1c
                have hcv3 : m_16 cv 0 = mem 36 f ∧ m_16 cv 1 = mem 37 f ∧ m_16 cv 2 = mem 38 f := by rw [f16 cv 0 u3c (by omega), f16 cv 1 u3c (by omega), f16 cv 2 u3c (by omega)]; exact u4c
                have hcs : 0 ≤ m_16 cv 0 ∧ m_16 cv 0 ≤ 2 ∧ AB (m_16 cv 1) (m_16 cv 2) ∧ 0 ≤ cv := by rw [hcv3.1, hcv3.2.1, hcv3.2.2]; omega
                have g13 := hgc.2.2.1 13 (by decide) (by decide)
                have g14 := hgc.2.2.1 14 (by decide) (by decide)
                have g15 := hgc.2.2.1 15 (by decide) (by decide)
                have h13 : kd_12 (m_16 a_11 13) = 21 ∧ ln_12 (m_16 a_11 13) = 40 ∧ 35 ≤ m_16 a_11 13 := by rw [g13]; have y := hga.2.2.1 4 (by decide) (by decide); exact ⟨y.1, y.2.1, by omega⟩
                have h14 : kd_12 (m_16 a_11 14) = 21 ∧ ln_12 (m_16 a_11 14) = 40 ∧ 35 ≤ m_16 a_11 14 := by rw [g14]; have y := hga.2.2.1 5 (by decide) (by decide); exact ⟨y.1, y.2.1, by omega⟩
                have h15 : kd_12 (m_16 a_11 15) = 21 ∧ ln_12 (m_16 a_11 15) = 40 ∧ 35 ≤ m_16 a_11 15 := by rw [g15]; have y := hga.2.2.1 6 (by decide) (by decide); exact ⟨y.1, y.2.1, by omega⟩
                have hd15 : m_16 a_11 13 ≠ m_16 a_11 15 := by rw [g13, g15]; omega
                obtain ⟨mP, hmP⟩ : ∃ y : Int → Int → Int, y = m_16 := ⟨_, rfl⟩
                refine jblk hF [(.aload 6, 2), (.aload_n 0, 1)] (by decide +kernel) (pc' := 110) (lo' := [(6, (2, a_11)), (5, (2, v_1)), (0, (2, 3)), (1, (0, f)), (2, (0, w)), (3, (0, n)), (4, (0, t))]) (st' := [(2, 3), (2, a_11)]) rfl ?_
                refine jget hF 12 12 2 12 rfl (by decide) (by decide) rfl wd_338 (by decide +kernel) (by exact hK_12.k3) ?_
                rw [HR.r3_12 hR_m_16]
                refine jblk hF [(.iload_n 1, 1)] (by decide +kernel) (pc' := 114) (lo' := [(6, (2, a_11)), (5, (2, v_1)), (0, (2, 3)), (1, (0, f)), (2, (0, w)), (3, (0, n)), (4, (0, t))]) (st' := [(0, f), (2, 27), (2, a_11)]) rfl ?_
                refine jcallV hF (c_Jx4a65c_get_915e3 hG 27 f (by exact hK_12.k27) (by exact hkb27) (by exact hi27)) MW_Jx4a65c_get_915e3 0 (by decide) (by exact hK_12.k27) wd_498 wd_499 wd_500 (by decide +kernel) [(2, a_11)] rfl rfl (by decide) (Nat.le_of_ble_eq_true rfl) (by decide) (kV ?_)
                rw [hw27]
                refine jcast hF 1 (by decide) wd_414 (by decide +kernel) (by first | exact hkex | assumption | omega) ?_
                refine jcallV hF (c_X3_reckon hG hK_12 hR_m_16 a_11 cv (by assumption) (by first | assumption | omega) (by omega) (by exact hpb3.1) (by exact ⟨hpb3.2.2, hpb3.2.1⟩) (by exact hck) (by exact hcs) (by exact h13) (by exact h15) (by exact hd15)) MW_X3_reckon 4 (by decide) (by first | exact hkex | assumption | omega) wd_796 wd_797 wd_798 (by decide +kernel) [] rfl rfl (by decide) (Nat.le_of_ble_eq_true rfl) (by decide) (kMV (fun m_19 h_20 => ?_))
                obtain ⟨hR_m_19, h_20⟩ := h_20
                have hrk := h_20
                refine jblk hF [(.aload_n 0, 1)] (by decide +kernel) (pc' := 124) (lo' := [(6, (2, a_11)), (5, (2, v_1)), (0, (2, 3)), (1, (0, f)), (2, (0, w)), (3, (0, n)), (4, (0, t))]) (st' := [(2, 3)]) rfl ?_
                refine jget hF 12 9 2 9 rfl (by decide) (by decide) rfl wd_335 (by decide +kernel) (by exact hK_12.k3) ?_
                rw [HR.r3_9 hR_m_19]
                refine jcallV hF (c_X2_begin hG hK_12 hR_m_19) MW_X2_begin 3 (by decide) (by exact hK_12.k10) wd_803 wd_804 wd_805 (by decide +kernel) [] rfl rfl (by decide) (Nat.le_of_ble_eq_true rfl) (by decide) (kMV (fun m_21 h_22 => ?_))
                obtain ⟨hR_m_21, h_22⟩ := h_22
                have hbg := h_22
                have y5 : ∀ j : Int, m_21 a_11 j = mP a_11 j := fun j => by rw [hbg, hmP]; exact (if_neg (by omega)).trans (hrk.1 a_11 j (by rw [g13]; omega) (by rw [g15]; omega))
                have hpb5 : PB m_21 a_11 := PB.fr (by rw [hmP]; exact hpb3.1) y5
                have h135 : kd_12 (m_21 a_11 13) = 21 ∧ ln_12 (m_21 a_11 13) = 40 ∧ 35 ≤ m_21 a_11 13 := by rw [y5, hmP]; exact h13
                refine jblk hF [(.aload_n 0, 1)] (by decide +kernel) (pc' := 131) (lo' := [(6, (2, a_11)), (5, (2, v_1)), (0, (2, 3)), (1, (0, f)), (2, (0, w)), (3, (0, n)), (4, (0, t))]) (st' := [(2, 3)]) rfl ?_
                refine jget hF 12 9 2 9 rfl (by decide) (by decide) rfl wd_335 (by decide +kernel) (by exact hK_12.k3) ?_
                rw [HR.r3_9 hR_m_21]
                refine jblk hF [(.aload 6, 2)] (by decide +kernel) (pc' := 136) (lo' := [(6, (2, a_11)), (5, (2, v_1)), (0, (2, 3)), (1, (0, f)), (2, (0, w)), (3, (0, n)), (4, (0, t))]) (st' := [(2, a_11), (2, 10)]) rfl ?_
                refine jcallV hF (c_X2_make hG hK_12 hR_m_21 a_11 (by first | assumption | omega) (by omega) (by exact hpb5) (by exact h135) (by omega)) MW_X2_make 3 (by decide) (by exact hK_12.k10) wd_810 wd_811 wd_812 (by decide +kernel) [] rfl rfl (by decide) (Nat.le_of_ble_eq_true rfl) (by decide) (kMV (fun m_23 h_24 => ?_))
                obtain ⟨hR_m_23, h_24⟩ := h_24
                have hmk := h_24
                have y7 : m_23 a_11 14 = mP a_11 14 := (hmk.1 _ _ (by omega) (by omega)).trans (y5 14)
                have h147 : kd_12 (m_23 a_11 14) = 21 ∧ ln_12 (m_23 a_11 14) = 40 ∧ 35 ≤ m_23 a_11 14 := by rw [y7, hmP]; exact h14
                have hk147 : kd_12 (m_23 a_11 14) = 1 + 20 := h147.1
                have hl11 := hK_12.l11
                refine jblk hF [(.aload_n 0, 1)] (by decide +kernel) (pc' := 140) (lo' := [(6, (2, a_11)), (5, (2, v_1)), (0, (2, 3)), (1, (0, f)), (2, (0, w)), (3, (0, n)), (4, (0, t))]) (st' := [(2, 3)]) rfl ?_
                refine jget hF 12 9 2 9 rfl (by decide) (by decide) rfl wd_335 (by decide +kernel) (by exact hK_12.k3) ?_
                rw [HR.r3_9 hR_m_23]
                refine jget hF 3 0 2 0 rfl (by decide) (by decide) rfl wd_199 (by decide +kernel) (by exact hK_12.k10) ?_
                rw [HR.r10_0 hR_m_23]
                refine jblk hF [(.iconst 0, 1), (.aload 6, 2)] (by decide +kernel) (pc' := 149) (lo' := [(6, (2, a_11)), (5, (2, v_1)), (0, (2, 3)), (1, (0, f)), (2, (0, w)), (3, (0, n)), (4, (0, t))]) (st' := [(2, a_11), (0, 0), (2, 11)]) rfl ?_
                refine jget hF 4 14 2 14 rfl (by decide) (by decide) rfl wd_722 (by decide +kernel) (by first | exact hkex | assumption | omega) ?_
                refine jblk hF [(.iconst 0, 1), (.bipush 40, 2)] (by decide +kernel) (pc' := 155) (lo' := [(6, (2, a_11)), (5, (2, v_1)), (0, (2, 3)), (1, (0, f)), (2, (0, w)), (3, (0, n)), (4, (0, t))]) (st' := [(0, 40), (0, 0), (2, m_23 a_11 14), (0, 0), (2, 11)]) rfl ?_
                refine jcopy hF 1 (by decide) wd_846 wx_487 wd_486 wd_115 (fun h => absurd h (by decide)) (by exact hK_12.k11) (by first | exact hkex | assumption | omega) (by omega) (by omega) (by omega) (by omega) (by (rw [hl11]; decide)) (by (rw [h147.2.1]; decide)) (fun h => absurd h (by decide)) (by decide +kernel) ⟨Nat.le_of_ble_eq_true rfl, Nat.le_of_ble_eq_true rfl⟩ ?_
                obtain ⟨m_25, hm_25⟩ : ∃ q : Int → Int → Int, q = cpyM m_23 11 (m_23 a_11 14) 0 0 40 := ⟨_, rfl⟩
                rw [← hm_25]
                have hmC := hm_25
                have hR_m_25 : HR m_25 := HR.of hR_m_23 (fun a k q => by rw [hm_25]; exact if_neg (by omega))
                obtain ⟨hpf, hff, hebF⟩ := PFL.mk hgb hgc hFR hrk hcv3 hbg hmk hmC haA (by omega) (by omega)
                obtain ⟨mb, hmb⟩ : ∃ y : Int → Int → Int, y = fun (b j : Int) => if b < (sz : Int) then m_25 b j else mem b j := ⟨_, rfl⟩
                have hf1x : ∀ b j : Int, b < sz → m_25 b j = mb b j := fun b j u => by rw [hmb]; exact (if_pos u).symm
                have hmbf : ∀ b j : Int, b ≠ 7 → b ≠ 11 → b ≠ 12 → b ≠ 13 → mb b j = mem b j := by
                  rw [hmb]; intro b j u1 u2 u3 u4
                  by_cases u : b < sz
                  · exact (if_pos u).trans (hff b j u u1 u2 u3 u4)
                  · exact if_neg u
                have hI7 : INV kd ln mb sz tg := hI.fr (fun a j u => hmbf a j (by omega) (by omega) (by omega) (by omega)) (by (unfold EB at *; rw [← hf1x 7 3 (by omega), ← hf1x 7 4 (by omega), ← hf1x 7 5 (by omega)]; exact hebF))
                have hE1x := hE0x
                have hke := hkex
                have hlo := hI7.g29.lso hE1x hf1x wx_2265 (by decide) (by omega)
                refine jblk hF [(.aload_n 0, 1)] (by decide +kernel) (pc' := 159) (lo' := [(6, (2, a_11)), (5, (2, v_1)), (0, (2, 3)), (1, (0, f)), (2, (0, w)), (3, (0, n)), (4, (0, t))]) (st' := [(2, 3)]) rfl ?_
                refine jget hF 12 14 2 14 rfl (by decide) (by decide) rfl wd_340 (by decide +kernel) (by exact hK_12.k3) ?_
                rw [HR.r3_14 hR_m_25]
                refine jblk hF [(.aload 6, 2)] (by decide +kernel) (pc' := 164) (lo' := [(6, (2, a_11)), (5, (2, v_1)), (0, (2, 3)), (1, (0, f)), (2, (0, w)), (3, (0, n)), (4, (0, t))]) (st' := [(2, a_11), (2, 29)]) rfl ?_
                refine jcallV hF (c_Jx4a65c_add_9ea2d hG 29 a_11 (by assumption) (by exact mi) (by assumption) (by exact hlo.1) (by exact hlo.2) (by exact 4) (by decide) (by first | assumption | exact hke) (by omega) (by exact wx_2265)) MW_Jx4a65c_add_9ea2d 0 (by decide) (by exact hK_12.k29) wd_430 wd_431 wd_432 (by decide +kernel) [] rfl rfl (by decide) (Nat.le_of_ble_eq_true rfl) (by decide) (kXR (fun v_26 kd_26 ln_26 m_26 sz_26 hE_26 h_26 => ?_))
                have hEE_26 : EXT kd ln sz kd_26 ln_26 sz_26 := (hEE_12).tr hE_26
                have hK_26 : HK kd_26 ln_26 := hK_12.ext hE_26 (by omega)
                obtain ⟨hv1, hAd, hAz⟩ := h_26
                have hE2x := hE_26
                have hfx : ∀ a j : Int, (a < 27 ∨ (34 < a ∧ a ≤ 100)) → m_26 a j = mb a j := hAd.mkp (hI7.g29.2.1.imp id (fun u => u.1)) hf1x (by omega) (by omega) (by decide)
                have hR_m_26 : HR m_26 := HR.of hR (fun x k u => (hfx x k (by omega)).trans (hmbf x k (by omega) (by omega) (by omega) (by omega)))
                have hsz2 : m_26 29 2 = mem 35 33 + 1 := by rw [hAd.2.2.2.2.2.1, hff 29 2 (by omega) (by decide) (by decide) (by decide) (by decide), e29]
                have hmkp : MKP mem m_26 := ⟨fun a j u1 u2 => (hfx a j (by omega)).trans (hmbf a j (by omega) (by omega) (by omega) (by omega)), (MKP.of hI7 hfx).2⟩
                have hkLx : kd_26 29 = 1 := ((hE1x.tr hE2x).2 29 (by omega)).1.trans k29
                refine jblk hF [(.pop, 1), (.aload_n 0, 1)] (by decide +kernel) (pc' := 169) (lo' := [(6, (2, a_11)), (5, (2, v_1)), (0, (2, 3)), (1, (0, f)), (2, (0, w)), (3, (0, n)), (4, (0, t))]) (st' := [(2, 3)]) rfl ?_
                refine jget hF 12 14 2 14 rfl (by decide) (by decide) rfl wd_340 (by decide +kernel) (by exact hK_26.k3) ?_
                rw [HR.r3_14 hR_m_26]
                refine jcallV hF (c_Jx4a65c_size_8abf5 hG 29 (by first | assumption | omega)) MW_Jx4a65c_size_8abf5 0 (by decide) (by exact hK_26.k29) wd_410 wd_411 wd_412 (by decide +kernel) [] rfl rfl (by decide) (Nat.le_of_ble_eq_true rfl) (by decide) (kV ?_)
                rw [hsz2]
                refine jblk hF [(.iconst 1, 1), (.isub, 1)] (by decide +kernel) (pc' := 177) (lo' := [(6, (2, a_11)), (5, (2, v_1)), (0, (2, 3)), (1, (0, f)), (2, (0, w)), (3, (0, n)), (4, (0, t))]) (st' := [(0, (mem 35 33 + 1) - 1)]) rfl ?_
                refine jwiden (k := 11) (n := 479) (Nat.le_of_ble_eq_true rfl) (Nat.le_of_ble_eq_true rfl) ?_
                refine jiret hF hr (by decide +kernel) ?_
                exact ⟨_, rfl, hEE_26, ⟨hR_m_26, by exact ⟨fun _ => ⟨by omega, GRX.page hI hfa hL0 hcc hc2 hc3 hE1x hff haA (by omega) hke (fun i u1 u2 => ⟨(hga.2.2.1 i u1 u2).1, (hga.2.2.1 i u1 u2).2.1⟩) hpf hAd hAz hE2x⟩, fun u => absurd ⟨hcc, hc2, hc3⟩ u, hmkp⟩⟩⟩
              · have h_17_ := h_17
                have hgc := hgb.lnn h_17.2.1 haA (by omega)
                have hcD := h_17.1
                rw [hgb.1.2.1, hgb.1.2.2.1, hgb.2.1.1, hgb.2.1.2.2.2.2.1] at hcD
                have hfr0 := h_17.2.2
                have hR_m_16 : HR m_16 := HR.of hRH (fun x k u => h_17.2.1.1 x k (by omega) (by omega))
                refine jif_ne hF (off := 5) 107 (by decide +kernel) (by decide) (by decide) (fun h => absurd h (by decide)) (fun _ => ?_)
                have hng : ¬ (pgC1 mem f w n t ∧ pgC2 T L w n ∧ pgC3 T L w n) := by first | exact fun u => hcD.2 u.2.2 | exact fun u => hcH.2 u.2.1
                have hfr7 : ∀ b j : Int, b < sz → b ≠ 7 → m_16 b j = mem b j := by first | exact hgc.2.2.2.2.1 | exact hgb.2.2.2.2.1
                have heb7 : EB m_16 := by first | exact hgc.2.2.2.2.2 | exact hgb.2.2.2.2.2
                refine jblk hF [(.iconst (-1), 1)] (by decide +kernel) (pc' := 106) (lo' := [(6, (2, a_11)), (5, (2, v_1)), (0, (2, 3)), (1, (0, f)), (2, (0, w)), (3, (0, n)), (4, (0, t))]) (st' := [(0, (-1))]) rfl ?_
                refine jwiden (k := 11) (n := 479) (Nat.le_of_ble_eq_true rfl) (Nat.le_of_ble_eq_true rfl) ?_
                refine jiret hF hr (by decide +kernel) ?_
                exact ⟨_, rfl, hEE_12, ⟨hR_m_16, by exact ⟨fun u => absurd u hng, fun _ => ⟨rfl, fun M' hM => ⟨tg, hI.2.2.pgf hI.2.1 usz hE0x (fun _ _ => rfl) (fun a j u => hfr7 a j (by omega) (by omega)) (fun x j q1 q2 => hM x j (by omega) (by omega) (by omega) (by omega))⟩⟩, ⟨fun a j u1 u2 => hfr7 a j (by omega) (by omega), heb7⟩⟩⟩⟩
            · have h_14_ := h_14
              have hgb := hga.hd h_14.2 haA (by omega)
              have hcH := h_14.1
              rw [hgb.1.2.1, hgb.1.2.2.1, hgb.2.1.1, hgb.2.1.2.1, hgb.2.1.2.2.1, hgb.2.1.2.2.2.1, hgb.2.1.2.2.2.2.1, hgb.2.1.2.2.2.2.2] at hcH
              have hR_m_13 : HR m_13 := HR.of hR_m_12 (fun x k u => h_14.2.1 x k (by omega) (by omega))
              have htx2 := h_14.2.txt htx1 hk7x hkex
              have hRH := hR_m_13
              refine jif_eq hF (off := 17) 105 (by decide +kernel) (by decide) (by decide) (fun _ => ?_) (fun h => absurd h (by decide))
              have hng : ¬ (pgC1 mem f w n t ∧ pgC2 T L w n ∧ pgC3 T L w n) := by first | exact fun u => hcD.2 u.2.2 | exact fun u => hcH.2 u.2.1
              have hfr7 : ∀ b j : Int, b < sz → b ≠ 7 → m_13 b j = mem b j := by first | exact hgc.2.2.2.2.1 | exact hgb.2.2.2.2.1
              have heb7 : EB m_13 := by first | exact hgc.2.2.2.2.2 | exact hgb.2.2.2.2.2
              refine jblk hF [(.iconst (-1), 1)] (by decide +kernel) (pc' := 106) (lo' := [(6, (2, a_11)), (5, (2, v_1)), (0, (2, 3)), (1, (0, f)), (2, (0, w)), (3, (0, n)), (4, (0, t))]) (st' := [(0, (-1))]) rfl ?_
              refine jwiden (k := 11) (n := 479) (Nat.le_of_ble_eq_true rfl) (Nat.le_of_ble_eq_true rfl) ?_
              refine jiret hF hr (by decide +kernel) ?_
              exact ⟨_, rfl, hEE_12, ⟨hR_m_13, by exact ⟨fun u => absurd u hng, fun _ => ⟨rfl, fun M' hM => ⟨tg, hI.2.2.pgf hI.2.1 usz hE0x (fun _ _ => rfl) (fun a j u => hfr7 a j (by omega) (by omega)) (fun x j q1 q2 => hM x j (by omega) (by omega) (by omega) (by omega))⟩⟩, ⟨fun a j u1 u2 => hfr7 a j (by omega) (by omega), heb7⟩⟩⟩⟩
          · have hng : ¬ (pgC1 mem f w n t ∧ pgC2 (tTT mem t) (tLL mem t) w n ∧ pgC3 (tTT mem t) (tLL mem t) w n) := fun u => by first | omega | (have := u.1; omega) | exact (hv.2 (by omega)).1 u.1.2.2.2.1
            refine jblk hF [(.iconst (-1), 1)] (by decide +kernel) (pc' := 64) (lo' := [(5, (2, v_1)), (0, (2, 3)), (1, (0, f)), (2, (0, w)), (3, (0, n)), (4, (0, t))]) (st' := [(0, (-1))]) rfl ?_
            refine jwiden (k := 11) (n := 479) (Nat.le_of_ble_eq_true rfl) (Nat.le_of_ble_eq_true rfl) ?_
            refine jiret hF hr (by decide +kernel) ?_
            exact ⟨_, rfl, EXT.rf, ⟨hR, by exact ⟨fun u => absurd u hng, fun _ => ⟨rfl, fun M' hM => ⟨tg, hI.2.2.pgf hI.2.1 usz EXT.rf (fun _ _ => rfl) (fun _ _ _ => rfl) (fun x j q1 q2 => hM x j (by omega) (by omega) (by omega) (by omega))⟩⟩, MKP.rf hI⟩⟩⟩
        · refine jif_eq hF (off := 15) 63 (by decide +kernel) (by decide) (by decide) (fun _ => ?_) (fun h => absurd h (by decide))
          have hng : ¬ (pgC1 mem f w n t ∧ pgC2 (tTT mem t) (tLL mem t) w n ∧ pgC3 (tTT mem t) (tLL mem t) w n) := fun u => by first | omega | (have := u.1; omega) | exact (hv.2 (by omega)).1 u.1.2.2.2.1
          refine jblk hF [(.iconst (-1), 1)] (by decide +kernel) (pc' := 64) (lo' := [(5, (2, v_1)), (0, (2, 3)), (1, (0, f)), (2, (0, w)), (3, (0, n)), (4, (0, t))]) (st' := [(0, (-1))]) rfl ?_
          refine jwiden (k := 11) (n := 479) (Nat.le_of_ble_eq_true rfl) (Nat.le_of_ble_eq_true rfl) ?_
          refine jiret hF hr (by decide +kernel) ?_
          exact ⟨_, rfl, EXT.rf, ⟨hR, by exact ⟨fun u => absurd u hng, fun _ => ⟨rfl, fun M' hM => ⟨tg, hI.2.2.pgf hI.2.1 usz EXT.rf (fun _ _ => rfl) (fun _ _ _ => rfl) (fun x j q1 q2 => hM x j (by omega) (by omega) (by omega) (by omega))⟩⟩, MKP.rf hI⟩⟩⟩
      · refine jif_eq hF (off := 25) 63 (by decide +kernel) (by decide) (by decide) (fun _ => ?_) (fun h => absurd h (by decide))
        have hng : ¬ (pgC1 mem f w n t ∧ pgC2 (tTT mem t) (tLL mem t) w n ∧ pgC3 (tTT mem t) (tLL mem t) w n) := fun u => by first | omega | (have := u.1; omega) | exact (hv.2 (by omega)).1 u.1.2.2.2.1
        refine jblk hF [(.iconst (-1), 1)] (by decide +kernel) (pc' := 64) (lo' := [(5, (2, v_1)), (0, (2, 3)), (1, (0, f)), (2, (0, w)), (3, (0, n)), (4, (0, t))]) (st' := [(0, (-1))]) rfl ?_
        refine jwiden (k := 11) (n := 479) (Nat.le_of_ble_eq_true rfl) (Nat.le_of_ble_eq_true rfl) ?_
        refine jiret hF hr (by decide +kernel) ?_
        exact ⟨_, rfl, EXT.rf, ⟨hR, by exact ⟨fun u => absurd u hng, fun _ => ⟨rfl, fun M' hM => ⟨tg, hI.2.2.pgf hI.2.1 usz EXT.rf (fun _ _ => rfl) (fun _ _ _ => rfl) (fun x j q1 q2 => hM x j (by omega) (by omega) (by omega) (by omega))⟩⟩, MKP.rf hI⟩⟩⟩
  · refine jif_eq hF (off := 41) 63 (by decide +kernel) (by decide) (by decide) (fun _ => ?_) (fun h => absurd h (by decide))
    have hng : ¬ (pgC1 mem f w n t ∧ pgC2 (tTT mem t) (tLL mem t) w n ∧ pgC3 (tTT mem t) (tLL mem t) w n) := fun u => by first | omega | (have := u.1; omega) | exact (hv.2 (by omega)).1 u.1.2.2.2.1
    refine jblk hF [(.iconst (-1), 1)] (by decide +kernel) (pc' := 64) (lo' := [(5, (2, v_1)), (0, (2, 3)), (1, (0, f)), (2, (0, w)), (3, (0, n)), (4, (0, t))]) (st' := [(0, (-1))]) rfl ?_
    refine jwiden (k := 11) (n := 479) (Nat.le_of_ble_eq_true rfl) (Nat.le_of_ble_eq_true rfl) ?_
    refine jiret hF hr (by decide +kernel) ?_
    exact ⟨_, rfl, EXT.rf, ⟨hR, by exact ⟨fun u => absurd u hng, fun _ => ⟨rfl, fun M' hM => ⟨tg, hI.2.2.pgf hI.2.1 usz EXT.rf (fun _ _ => rfl) (fun _ _ _ => rfl) (fun x j q1 q2 => hM x j (by omega) (by omega) (by omega) (by omega))⟩⟩, MKP.rf hI⟩⟩⟩
end
