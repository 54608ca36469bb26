section STEPZ
/-- the model's cells of the one, all else of the other -/
def bld (mem m : Int → Int → Int) : Int → Int → Int := fun a j => if 35 ≤ a ∧ a ≤ 99 then m a j else mem a j
theorem Z47.eqs' {mem m : Int → Int → Int} (h : Z47 mem) (h1 : m 35 33 = mem 35 33) (h2 : ∀ p : Int, m 47 p = mem 47 p) : Z47 m := fun p q1 q2 => by
  rw [h1] at q1
  rw [h2]
  exact h p q1 q2
theorem feedM_neg (B : Int → Int) (M : Int → Int → Int) (h0 : 0 ≤ M 35 11) : ∀ k : Nat, ∀ j : Int, j < 0 → feedM B M k 39 j = M 39 j := by
  intro k
  induction k with
  | zero => intro j _; rfl
  | succ k ih =>
    intro j hj
    have hs := feedM_size B M k
    have hn := (nzc_bd B k).1
    unfold feedM
    split
    · exact ih j hj
    · rw [s2_a (by decide), s2_k (by omega)]
      exact ih j hj
theorem lsN_bd (M : Int → Int → Int) (X Y : Int) : ∀ k : Nat, lsN M X Y k = -1 ∨ (0 ≤ lsN M X Y k ∧ lsN M X Y k < k) := by
  intro k
  induction k with
  | zero => exact Or.inl rfl
  | succ k ih =>
    unfold lsN
    split
    · exact Or.inr ⟨by omega, by omega⟩
    · rcases ih with h | h
      · exact Or.inl h
      · exact Or.inr ⟨h.1, by omega⟩
theorem dbl_left {mem m2 : Int → Int → Int} {x y a b e X Y : Int} (hD : DBS mem) (d65 : m2 35 65 = mem 35 65 + 1) (kk : ∀ r k : Int, 77 ≤ r → r ≤ 81 → k ≠ mem 35 65 → m2 r k = mem r k) (dn : ∀ r : Int, 77 ≤ r → r ≤ 81 → m2 r (mem 35 65) = if r = 77 then x else if r = 78 then y else if r = 79 then a else if r = 80 then b else e) (he : 0 ≤ e) : leftV m2 X Y = if (X = x ∧ Y = y) ∨ (X = y ∧ Y = x) then dblU a b e else leftV mem X Y := by
  have h0 := hD.1
  have n77 : m2 77 (mem 35 65) = x := dn 77 (by decide) (by decide)
  have n78 : m2 78 (mem 35 65) = y := dn 78 (by decide) (by decide)
  have n79 : m2 79 (mem 35 65) = a := dn 79 (by decide) (by decide)
  have n80 : m2 80 (mem 35 65) = b := dn 80 (by decide) (by decide)
  have n81 : m2 81 (mem 35 65) = e := dn 81 (by decide) (by decide)
  have hN : (mem 35 65 + 1).toNat = (mem 35 65).toNat + 1 := by omega
  have hc : ((mem 35 65).toNat : Int) = mem 35 65 := by omega
  have e1 : lsN m2 X Y (m2 35 65).toNat = if (x = X ∧ y = Y) ∨ (x = Y ∧ y = X) then mem 35 65 else lsN mem X Y (mem 35 65).toNat := by
    rw [d65, hN]
    show (if (m2 77 ((mem 35 65).toNat : Int) = X ∧ m2 78 ((mem 35 65).toNat : Int) = Y) ∨ (m2 77 ((mem 35 65).toNat : Int) = Y ∧ m2 78 ((mem 35 65).toNat : Int) = X) then ((mem 35 65).toNat : Int) else lsN m2 X Y (mem 35 65).toNat) = _
    rw [hc, n77, n78, lsN_cg (M := mem) (M' := m2) _ (fun s q1 q2 => ⟨kk 77 s (by decide) (by decide) (by omega), kk 78 s (by decide) (by decide) (by omega)⟩)]
  unfold leftV
  rw [e1]
  by_cases w : (x = X ∧ y = Y) ∨ (x = Y ∧ y = X)
  · rw [if_pos w, if_pos (by omega)]
    unfold leftW dblU
    rw [if_neg (by omega), n79, n80, n81]
    by_cases w2 : e = 0
    · rw [if_pos w2, if_neg (show ¬ 0 < e by omega)]
    · rw [if_neg w2, if_pos (show 0 < e by omega)]
  · rw [if_neg w, if_neg (by omega)]
    have hb := lsN_bd mem X Y (mem 35 65).toNat
    rcases hb with hb | hb
    · rw [hb]
      unfold leftW
      rw [if_pos rfl, if_pos rfl]
    · unfold leftW
      rw [kk 79 _ (by decide) (by decide) (by omega), kk 80 _ (by decide) (by decide) (by omega), kk 81 _ (by decide) (by decide) (by omega)]
theorem cmM_cg {p : Int} {m m' : Int → Int → Int} (h : ∀ a j : Int, 84 ≤ a → a ≤ 87 → m a j = m' a j) : ∀ k : Nat, (cmM p k m).1 = (cmM p k m').1 ∧ ∀ a j : Int, m a j = m' a j → (cmM p k m).2 a j = (cmM p k m').2 a j := by
  intro k
  induction k with
  | zero => exact ⟨rfl, fun a j q => q⟩
  | succ k ih =>
    obtain ⟨i1, i2⟩ := ih
    have e84 := i2 84 k (h 84 k (by decide) (by decide))
    have e85 := i2 85 k (h 85 k (by decide) (by decide))
    have e86 := i2 86 k (h 86 k (by decide) (by decide))
    have e87 := i2 87 k (h 87 k (by decide) (by decide))
    unfold cmM
    rw [e84, e85, e86, e87, i1]
    by_cases w : (cmM p k m').2 84 k = p
    · rw [if_pos w, if_pos w]; exact ⟨i1, i2⟩
    · rw [if_neg w, if_neg w]
      refine ⟨rfl, fun a j q => ?_⟩
      show set2 (set2 (set2 (set2 (cmM p k m).2 84 _ _) 85 _ _) 86 _ _) 87 _ _ a j = set2 (set2 (set2 (set2 (cmM p k m').2 84 _ _) 85 _ _) 86 _ _) 87 _ _ a j
      unfold set2
      rw [i2 a j q]
theorem MD_feed {kd : Int → Nat} {ln : Int → Int} {mem m1 : Int → Int → Int} {sz : Nat} {tg : Int → Int} {a b c d e : Int} {v1 : Int} (hI : INV kd ln mem sz tg) (h1 : HR m1 ∧ ((mem 35 11 + nzc (byteI a) 4 + nzc (byteI b) 4 + nzc (byteI c) 4 + nzc (byteI d) 4 + nzc (byteI e) 4 > 160 → v1 = -1 ∧ m1 = mem) ∧ (¬ mem 35 11 + nzc (byteI a) 4 + nzc (byteI b) 4 + nzc (byteI c) 4 + nzc (byteI d) 4 + nzc (byteI e) 4 > 160 → v1 = mem 35 11 + nzc (byteI a) 4 + nzc (byteI b) 4 + nzc (byteI c) 4 + nzc (byteI d) 4 + nzc (byteI e) 4 ∧ m1 = (fdP 5 6 (byteI e) (fdP 5 6 (byteI d) (fdP 5 6 (byteI c) (fdP 5 6 (byteI b) (fdP 5 6 (byteI a) mem 4) 4) 4) 4) 4)))) : EQS mem m1 ∧ MI m1 ∧ SR m1 := by
  refine MI.aft hI (fun r0 k0 q1 q2 => ?_)
  by_cases hc : mem 35 11 + nzc (byteI a) 4 + nzc (byteI b) 4 + nzc (byteI c) 4 + nzc (byteI d) 4 + nzc (byteI e) 4 > 160
  · rw [(h1.2.1 hc).2]
  · rw [(h1.2.2 hc).2]
    rw [((fdP_fr (by decide) 4).1 r0 k0 (by omega) (by omega)), ((fdP_fr (by decide) 4).1 r0 k0 (by omega) (by omega)), ((fdP_fr (by decide) 4).1 r0 k0 (by omega) (by omega)), ((fdP_fr (by decide) 4).1 r0 k0 (by omega) (by omega)), ((fdP_fr (by decide) 4).1 r0 k0 (by omega) (by omega))]
theorem ST_feed {kd : Int → Nat} {ln : Int → Int} {mem m1 m2 : Int → Int → Int} {sz : Nat} {tg : Int → Int} {a b c d e : Int} {v1 v2 : Int} (hI : INV kd ln mem sz tg) (hz : Z47 mem) (h1 : HR m1 ∧ ((mem 35 11 + nzc (byteI a) 4 + nzc (byteI b) 4 + nzc (byteI c) 4 + nzc (byteI d) 4 + nzc (byteI e) 4 > 160 → v1 = -1 ∧ m1 = mem) ∧ (¬ mem 35 11 + nzc (byteI a) 4 + nzc (byteI b) 4 + nzc (byteI c) 4 + nzc (byteI d) 4 + nzc (byteI e) 4 > 160 → v1 = mem 35 11 + nzc (byteI a) 4 + nzc (byteI b) 4 + nzc (byteI c) 4 + nzc (byteI d) 4 + nzc (byteI e) 4 ∧ m1 = (fdP 5 6 (byteI e) (fdP 5 6 (byteI d) (fdP 5 6 (byteI c) (fdP 5 6 (byteI b) (fdP 5 6 (byteI a) mem 4) 4) 4) 4) 4)))) (h2 : SR m2 ∧ ((m1 35 11 + nzc (byteK a b c d e) 20 > 160 → v2 = -1 ∧ m2 = m1) ∧ (¬ m1 35 11 + nzc (byteK a b c d e) 20 > 160 → v2 = m1 35 11 + nzc (byteK a b c d e) 20 ∧ m2 = feedM (byteK a b c d e) m1 20))) : v1 = v2 ∧ LI kd ln m2 sz := by
  obtain ⟨he, hMI, hS1⟩ := MD_feed hI h1
  obtain ⟨hR1, h1n, h1c⟩ := h1
  obtain ⟨hS2, h2n, h2c⟩ := h2
  have e11 : m1 35 11 = mem 35 11 := he 35 11 (by omega)
  obtain ⟨f20, n20⟩ := feed_5 a b c d e m1
  rw [n20, e11] at h2n h2c
  obtain ⟨g1, g7, g8, g9, g10⟩ := hI.2.2.1
  have hp := hI.ptx
  by_cases hc : mem 35 11 + nzc (byteI a) 4 + nzc (byteI b) 4 + nzc (byteI c) 4 + nzc (byteI d) 4 + nzc (byteI e) 4 > 160
  · obtain ⟨e1, h3⟩ := h1n hc
    obtain ⟨e2, h4⟩ := h2n (by omega)
    subst h3
    exact ⟨e1.trans e2.symm, tg, by rw [h4]; exact hI, by rw [h4]; exact hz⟩
  · obtain ⟨e1, h3⟩ := h1c hc
    obtain ⟨e2, h4⟩ := h2c (by omega)
    refine ⟨by rw [e1, e2]; omega, tg, ?_, ?_⟩
    · have e39 : m1 39 = mem 39 := funext fun j => he 39 j (by omega)
      obtain ⟨a1, a2⟩ := feed_R (B := byteI a) (M := m1) (m := mem) (g8.trans e11.symm) (g9.trans e39.symm) 4
      obtain ⟨b1, b2⟩ := feed_R (B := byteI b) a1 a2 4
      obtain ⟨c1, c2⟩ := feed_R (B := byteI c) b1 b2 4
      obtain ⟨d1, d2⟩ := feed_R (B := byteI d) c1 c2 4
      obtain ⟨w1, w2⟩ := feed_R (B := byteI e) d1 d2 4
      rw [← h3, ← f20, ← h4] at w1 w2
      have fr : ∀ x j : Int, x ≠ 39 → ¬ (x = 35 ∧ j = 11) → m2 x j = m1 x j := fun x j u1 u2 => by rw [h4]; exact feedM_fr _ _ 20 x j u1 u2
      have gr : ∀ x j : Int, x ≠ 6 → ¬ (x = 5 ∧ j = 1) → m1 x j = mem x j := fun x j u1 u2 => by
        rw [h3, ((fdP_fr (by decide) 4).1 x j u1 u2), ((fdP_fr (by decide) 4).1 x j u1 u2), ((fdP_fr (by decide) 4).1 x j u1 u2), ((fdP_fr (by decide) 4).1 x j u1 u2), ((fdP_fr (by decide) 4).1 x j u1 u2)]
      have fb := fun k => byteK_bd a b c d e k
      have hsz : m2 35 11 = mem 35 11 + nzc (byteK a b c d e) 20 := by rw [h4, feedM_size, e11]
      have hnn := nzc_bd (byteK a b c d e) 20
      have hP : PTX m2 := by
        refine ⟨by rw [hsz]; omega, by rw [hsz, n20]; omega, fun i u1 u2 => ?_⟩
        rw [h4]
        exact feedM_row _ _ fb (fun i v1 v2 => by rw [e39]; exact hp.2.2 i v1 v2) 20 i u1 u2
      have hMI2 : MI m2 := hMI.w_feed (fun x j u1 u2 => fr x j (by omega) (by omega)) hP
      obtain ⟨g1, g2, g3, g4, g5, g6⟩ := g1
      have k3 : ∀ j : Int, m2 3 j = mem 3 j := fun j => (fr 3 j (by decide) (by omega)).trans (gr 3 j (by decide) (by omega))
      have k35 : ∀ j : Int, j ≠ 11 → m2 35 j = mem 35 j := fun j u => (fr 35 j (by decide) (by omega)).trans (gr 35 j (by decide) (by omega))
      refine hI.numd (hR1.of (fun x k q => fr x k (by omega) (by omega))) hS2 (hI.eb.of7 (fun j => (fr 7 j (by decide) (by omega)).trans (gr 7 j (by decide) (by omega)))) hMI2 (fun x j q => (fr x j (by omega) (by omega)).trans (gr x j (by omega) (by omega))) (fun x j q1 q2 q3 q4 => (fr x j (by omega) (by omega)).trans (gr x j (by omega) (by omega))) ⟨⟨?_, ?_, ?_, ?_, ?_, ?_⟩, fun x y q1 q2 q3 q4 => ?_, ?_, ?_, fun j q => ?_⟩
      · rw [k3, k35 _ (by decide)]; exact g1
      · rw [k3, k35 _ (by decide)]; exact g2
      · rw [k3, k35 _ (by decide)]; exact g3
      · rw [k3, k35 _ (by decide)]; exact g4
      · rw [k3, k35 _ (by decide)]; exact g5
      · rw [k3, k35 _ (by decide)]; exact g6
      · rw [(fr 4 _ (by decide) (by omega)).trans (gr 4 _ (by decide) (by omega)), g7 x y q1 q2 q3 q4]
        exact (leftV_cg (k35 65 (by decide)) (fun r s u1 u2 => (fr r s (by omega) (by omega)).trans (gr r s (by omega) (by omega)))).symm
      · rw [fr 5 1 (by decide) (by omega)]; exact w1
      · rw [show m2 6 = m1 6 from funext fun j => fr 6 j (by decide) (by omega)]; exact w2
      · rw [fr 6 j (by decide) (by omega), w2, h4, feedM_neg _ _ (by rw [e11]; exact hp.1) 20 j q, e39, ← g9]
        exact g10 j q
    · rw [h4]
      refine (show Z47 m1 from hz.eqs he).eqs' (feedM_fr _ _ 20 35 33 (by decide) (by decide)) (fun p => feedM_fr _ _ 20 47 p (by decide) (by omega))
theorem MD_doubled {kd : Int → Nat} {ln : Int → Int} {mem m1 : Int → Int → Int} {sz : Nat} {tg : Int → Int} {x y a b e : Int} {v1 : Int} (hI : INV kd ln mem sz tg) (h1 : (v1 = 1 ∧ HR m1 ∧ ((True ↔ dblC mem x y a b e) ∧ m1 = (if dblC mem x y a b e then dblX mem x y a b e else mem))) ∨ (v1 = 0 ∧ HR m1 ∧ ((False ↔ dblC mem x y a b e) ∧ m1 = (if dblC mem x y a b e then dblX mem x y a b e else mem)))) : EQS mem m1 ∧ MI m1 ∧ SR m1 := by
  refine MI.aft hI (fun r0 k0 q1 q2 => ?_)
  have h3 : m1 = if dblC mem x y a b e then dblX mem x y a b e else mem := by
    rcases h1 with ⟨-, -, -, w⟩ | ⟨-, -, -, w⟩ <;> exact w
  rw [h3]
  split
  · unfold dblX
    rw [s2_a (by omega), s2_a (by omega), s2_a (by omega)]
  · rfl
theorem ST_doubled {kd : Int → Nat} {ln : Int → Int} {mem m1 m2 : Int → Int → Int} {sz : Nat} {tg : Int → Int} {x y a b e : Int} {v1 v2 : Int} (hI : INV kd ln mem sz tg) (hz : Z47 mem) (h1 : (v1 = 1 ∧ HR m1 ∧ ((True ↔ dblC mem x y a b e) ∧ m1 = (if dblC mem x y a b e then dblX mem x y a b e else mem))) ∨ (v1 = 0 ∧ HR m1 ∧ ((False ↔ dblC mem x y a b e) ∧ m1 = (if dblC mem x y a b e then dblX mem x y a b e else mem)))) (h2 : (v2 = 1 ∧ SR m2 ∧ ((True ↔ dblC m1 x y a b e) ∧ m2 = (if dblC m1 x y a b e then dblM m1 x y a b e else m1))) ∨ (v2 = 0 ∧ SR m2 ∧ ((False ↔ dblC m1 x y a b e) ∧ m2 = (if dblC m1 x y a b e then dblM m1 x y a b e else m1)))) : v1 = v2 ∧ LI kd ln m2 sz := by
  obtain ⟨he, hMI, hS1⟩ := MD_doubled hI h1
  have h3 : m1 = if dblC mem x y a b e then dblX mem x y a b e else mem := by
    rcases h1 with ⟨-, -, -, w⟩ | ⟨-, -, -, w⟩ <;> exact w
  have hR1 : HR m1 := by rcases h1 with ⟨-, w, -⟩ | ⟨-, w, -⟩ <;> exact w
  have hS2 : SR m2 := by rcases h2 with ⟨-, w, -⟩ | ⟨-, w, -⟩ <;> exact w
  have ec : dblC m1 x y a b e ↔ dblC mem x y a b e := by rw [ovr_ex he]; exact Iff.rfl
  by_cases hc : dblC mem x y a b e
  · rw [if_pos hc] at h3
    have h4 : m2 = dblM m1 x y a b e := by
      rcases h2 with ⟨-, -, -, w⟩ | ⟨-, -, -, w⟩ <;> exact w.trans (if_pos (ec.mpr hc))
    have e1 : v1 = 1 := by
      rcases h1 with ⟨w, -⟩ | ⟨-, -, w, -⟩
      · exact w
      · exact absurd (w.mpr hc) (fun u => u)
    have e2 : v2 = 1 := by
      rcases h2 with ⟨w, -⟩ | ⟨-, -, w, -⟩
      · exact w
      · exact absurd (w.mpr (ec.mpr hc)) (fun u => u)
    have e65 : m1 35 65 = mem 35 65 := he 35 65 (by omega)
    have d65 : m2 35 65 = mem 35 65 + 1 := by rw [h4, dblM_e, if_pos ⟨rfl, rfl⟩, e65]
    have dk : ∀ r k : Int, ¬ (r = 35 ∧ k = 65) → ¬ (k = mem 35 65 ∧ 77 ≤ r ∧ r ≤ 81) → m2 r k = m1 r k := fun r k u1 u2 => by rw [h4, dblM_e, if_neg u1, if_neg (by rw [e65]; exact u2)]
    have dn : ∀ r : Int, 77 ≤ r → r ≤ 81 → m2 r (mem 35 65) = if r = 77 then x else if r = 78 then y else if r = 79 then a else if r = 80 then b else e := fun r u1 u2 => by rw [h4, dblM_e, if_neg (by omega), if_pos ⟨e65.symm, u1, u2⟩]
    have ck : ∀ r k : Int, ¬ (r = 3 ∧ k = 5) → r ≠ 4 → m1 r k = mem r k := fun r k u1 u2 => by rw [h3]; unfold dblX; rw [s2_a u2, s2_a u2]; exact if_neg u1
    have hD := hI.dbs
    obtain ⟨g1, g7, g8, g9, g10⟩ := hI.2.2.1
    obtain ⟨g1, g2, g3, g4, g5, g6⟩ := g1
    have k35 : ∀ j : Int, j ≠ 65 → m2 35 j = mem 35 j := fun j u => (dk 35 j (by omega) (by omega)).trans (ck 35 j (by omega) (by decide))
    have kk : ∀ r k : Int, ¬ (r = 35 ∧ k = 65) → ¬ (k = mem 35 65 ∧ 77 ≤ r ∧ r ≤ 81) → ¬ (r = 3 ∧ k = 5) → r ≠ 4 → m2 r k = mem r k := fun r k u1 u2 u3 u4 => (dk r k u1 u2).trans (ck r k u3 u4)
    have hl : ∀ X Y : Int, leftV m2 X Y = if (X = x ∧ Y = y) ∨ (X = y ∧ Y = x) then dblU a b e else leftV mem X Y := fun X Y => dbl_left hD d65 (fun r k u1 u2 u3 => kk r k (by omega) (by omega) (by omega) (by omega)) dn (by have := hc.2.2.2.2.2.1.1; omega)
    refine ⟨e1.trans e2.symm, tg, ?_, by rw [h4]; exact (show Z47 m1 from hz.eqs he)⟩
    have hMI2 : MI m2 := by rw [h4]; exact hMI.k_doubled x y a b e (ec.mpr hc)
    refine hI.numd (hR1.of (fun r k q => dk r k (by omega) (by omega))) hS2 (hI.eb.of7 (fun j => kk 7 j (by omega) (by omega) (by omega) (by decide))) hMI2 (fun r k q => kk r k (by omega) (by have := hD.1; omega) (by omega) (by omega)) (fun r k q1 q2 q3 q4 => kk r k (by omega) (by omega) (by omega) (by omega)) ⟨⟨?_, ?_, ?_, ?_, ?_, ?_⟩, fun X Y q1 q2 q3 q4 => ?_, ?_, ?_, fun j q => ?_⟩
    · rw [kk 3 0 (by omega) (by omega) (by omega) (by decide), k35 _ (by decide)]; exact g1
    · rw [kk 3 1 (by omega) (by omega) (by omega) (by decide), k35 _ (by decide)]; exact g2
    · rw [kk 3 2 (by omega) (by omega) (by omega) (by decide), k35 _ (by decide)]; exact g3
    · rw [kk 3 3 (by omega) (by omega) (by omega) (by decide), k35 _ (by decide)]; exact g4
    · rw [kk 3 4 (by omega) (by omega) (by omega) (by decide), k35 _ (by decide)]; exact g5
    · rw [dk 3 5 (by omega) (by omega), d65, h3]; rfl
    · rw [hl X Y, dk 4 _ (by omega) (by omega), h3]
      obtain ⟨c1, c2, c3, c4⟩ := hc
      show set2 (set2 (set2 mem 3 5 (mem 35 65 + 1)) 4 (x * 8 + y) (dblU a b e)) 4 (y * 8 + x) (dblU a b e) 4 (X * 8 + Y) = _
      by_cases w1 : X = y ∧ Y = x
      · rw [w1.1, w1.2, s2_s, if_pos (Or.inr ⟨rfl, rfl⟩)]
      · rw [s2_k (by omega)]
        by_cases w2 : X = x ∧ Y = y
        · rw [w2.1, w2.2, s2_s, if_pos (Or.inl ⟨rfl, rfl⟩)]
        · rw [s2_k (by omega), s2_a (by decide), if_neg (by omega)]
          exact g7 X Y q1 q2 q3 q4
    · rw [kk 5 1 (by omega) (by omega) (by omega) (by decide), k35 _ (by decide)]; exact g8
    · rw [show m2 6 = mem 6 from funext fun j => kk 6 j (by omega) (by omega) (by omega) (by decide), show m2 39 = mem 39 from funext fun j => kk 39 j (by omega) (by omega) (by omega) (by decide)]; exact g9
    · rw [kk 6 j (by omega) (by omega) (by omega) (by decide)]; exact g10 j q
  · rw [if_neg hc] at h3
    subst h3
    have h4 : m2 = m1 := by
      rcases h2 with ⟨-, -, -, w⟩ | ⟨-, -, -, w⟩ <;> exact w.trans (if_neg hc)
    have e1 : v1 = 0 := by
      rcases h1 with ⟨-, -, w, -⟩ | ⟨w, -⟩
      · exact absurd (w.mp trivial) hc
      · exact w
    have e2 : v2 = 0 := by
      rcases h2 with ⟨-, -, w, -⟩ | ⟨w, -⟩
      · exact absurd (w.mp trivial) hc
      · exact w
    exact ⟨e1.trans e2.symm, tg, by rw [h4]; exact hI, by rw [h4]; exact hz⟩
theorem MD_press {kd : Int → Nat} {ln : Int → Int} {mem m1 : Int → Int → Int} {sz : Nat} {tg : Int → Int} {p n j f : Int} {v1 : Int} (hI : INV kd ln mem sz tg) (h1 : (v1 = 1 ∧ HR m1 ∧ ((True ↔ preC mem p n j f) ∧ m1 = (if preC mem p n j f then prsX mem p n j f else mem))) ∨ (v1 = 0 ∧ HR m1 ∧ ((False ↔ preC mem p n j f) ∧ m1 = (if preC mem p n j f then prsX mem p n j f else mem)))) : EQS mem m1 ∧ MI m1 ∧ SR m1 := by
  refine MI.aft hI (fun r0 k0 q1 q2 => ?_)
  have h3 : m1 = if preC mem p n j f then prsX mem p n j f else mem := by
    rcases h1 with ⟨-, -, -, w⟩ | ⟨-, -, -, w⟩ <;> exact w
  rw [h3]
  split
  · rename_i hc
    have ha : 101 ≤ mem (mem (mem 29 1) p) 18 := ((hI.pag (p := p) hc.1.1.1 (by have := hc.1.1.2; omega)).row 18 (by decide)).2.2.1
    unfold prsX
    rw [s2_a (by omega), s2_a (by omega)]
  · rfl
theorem ST_press {kd : Int → Nat} {ln : Int → Int} {mem m1 m2 : Int → Int → Int} {sz : Nat} {tg : Int → Int} {p n j f : Int} {v1 v2 : Int} (hI : INV kd ln mem sz tg) (hz : Z47 mem) (h1 : (v1 = 1 ∧ HR m1 ∧ ((True ↔ preC mem p n j f) ∧ m1 = (if preC mem p n j f then prsX mem p n j f else mem))) ∨ (v1 = 0 ∧ HR m1 ∧ ((False ↔ preC mem p n j f) ∧ m1 = (if preC mem p n j f then prsX mem p n j f else mem)))) (h2 : (v2 = 1 ∧ SR m2 ∧ ((True ↔ preC m1 p n j f) ∧ m2 = (if preC m1 p n j f then preM m1 p n j f else m1))) ∨ (v2 = 0 ∧ SR m2 ∧ ((False ↔ preC m1 p n j f) ∧ m2 = (if preC m1 p n j f then preM m1 p n j f else m1)))) : v1 = v2 ∧ LI kd ln m2 sz := by
  obtain ⟨he, hMI, hS1⟩ := MD_press hI h1
  have h3 : m1 = if preC mem p n j f then prsX mem p n j f else mem := by
    rcases h1 with ⟨-, -, -, w⟩ | ⟨-, -, -, w⟩ <;> exact w
  have hR1 : HR m1 := by rcases h1 with ⟨-, w, -⟩ | ⟨-, w, -⟩ <;> exact w
  have hS2 : SR m2 := by rcases h2 with ⟨-, w, -⟩ | ⟨-, w, -⟩ <;> exact w
  have eps : psN m1 p n j (m1 35 72).toNat = psN mem p n j (mem 35 72).toNat := by rw [ovr_ex he]; exact cg_psN _ _ p n j _
  have ec : preC m1 p n j f ↔ preC mem p n j f := by
    unfold preC
    rw [eps]
    rw [ovr_ex he]
    exact Iff.rfl
  by_cases hc : preC mem p n j f
  · rw [if_pos hc] at h3
    have h4 : m2 = preM m1 p n j f := by
      rcases h2 with ⟨-, -, -, w⟩ | ⟨-, -, -, w⟩ <;> exact w.trans (if_pos (ec.mpr hc))
    have e1 : v1 = 1 := by
      rcases h1 with ⟨w, -⟩ | ⟨-, -, w, -⟩
      · exact w
      · exact absurd (w.mpr hc) (fun u => u)
    have e2 : v2 = 1 := by
      rcases h2 with ⟨w, -⟩ | ⟨-, -, w, -⟩
      · exact w
      · exact absurd (w.mpr (ec.mpr hc)) (fun u => u)
    refine ⟨e1.trans e2.symm, tg, ?_, by rw [h4]; exact (show Z47 m1 from hz.eqs he)⟩
    have hG := GRP.press hI hc
    rw [← h3] at hG
    have ha : 101 ≤ mem (mem (mem 29 1) p) 18 := ((hI.pag (p := p) hc.1.1.1 (by have := hc.1.1.2; omega)).row 18 (by decide)).2.2.1
    refine hI.fin EXT.rf hR1 (hI.eb.of7 (fun k => by rw [h3]; unfold prsX; rw [s2_a (by omega), s2_a (by omega)])) hG (fun r k q => by rw [h4]; exact (preM_e rfl).2.2.2.2.2 r k (by omega) (by omega)) (fun r k q => ?_) (by rw [h4]; exact hMI.k_press (ec.mpr hc)) hS2
    rw [h4]
    unfold preM
    rw [eps, he 35 72 (by omega)]
    unfold set2
    rw [he r k q]
  · rw [if_neg hc] at h3
    subst h3
    have h4 : m2 = m1 := by
      rcases h2 with ⟨-, -, -, w⟩ | ⟨-, -, -, w⟩ <;> exact w.trans (if_neg hc)
    have e1 : v1 = 0 := by
      rcases h1 with ⟨-, -, w, -⟩ | ⟨w, -⟩
      · exact absurd (w.mp trivial) hc
      · exact w
    have e2 : v2 = 0 := by
      rcases h2 with ⟨-, -, w, -⟩ | ⟨w, -⟩
      · exact absurd (w.mp trivial) hc
      · exact w
    exact ⟨e1.trans e2.symm, tg, by rw [h4]; exact hI, by rw [h4]; exact hz⟩
theorem MD_take {kd kd1 : Int → Nat} {ln ln1 : Int → Int} {mem m1 : Int → Int → Int} {sz sz1 : Nat} {tg : Int → Int} {p n s j : Int} {v1 : Int} (hI : INV kd ln mem sz tg) (hE : EXT kd ln sz kd1 ln1 sz1) (h1 : HR m1 ∧ ((¬ takA mem p n s → v1 = -1 ∧ GRX kd1 ln1 m1 sz1 mem) ∧ (takA mem p n s → ¬ takB mem s j → v1 = -2 ∧ GRX kd1 ln1 m1 sz1 mem) ∧ (takA mem p n s → takB mem s j → (takV mem p n s j = 0 → v1 = -3 ∧ GRX kd1 ln1 m1 sz1 mem) ∧ (takV mem p n s j ≠ 0 → (takV mem p n s j < -1000000 ∨ takV mem p n s j > 1000000 ∨ mem 35 45 = 60) → v1 = -1 ∧ GRX kd1 ln1 m1 sz1 mem) ∧ (takV mem p n s j ≠ 0 → ¬ (takV mem p n s j < -1000000 ∨ takV mem p n s j > 1000000 ∨ mem 35 45 = 60) → v1 = mem 35 45 ∧ GRX kd1 ln1 m1 sz1 (slipM mem p n 9 (takV mem p n s j)))) ∧ MKP mem m1)) : SK kd1 ln1 ∧ HK kd1 ln1 ∧ EQS mem m1 ∧ MI m1 ∧ SR m1 := by
  obtain ⟨hR1, -, -, -, hmk⟩ := h1
  obtain ⟨hk, hB⟩ := hmk
  have hs := hI.1.2.2.2.2.1
  obtain ⟨he, hMI, hS1⟩ := MI.aft hI (fun a j q1 q2 => hk a j q1 (by omega))
  exact ⟨hI.1.1.ext hE hs, hI.1.2.1.ext hE (by omega), he, hMI, hS1⟩
theorem ST_take {kd kd1 : Int → Nat} {ln ln1 : Int → Int} {mem m1 m2 : Int → Int → Int} {sz sz1 : Nat} {tg : Int → Int} {p n s j : Int} {v1 v2 : Int} (hI : INV kd ln mem sz tg) (hz : Z47 mem) (hE : EXT kd ln sz kd1 ln1 sz1) (h1 : HR m1 ∧ ((¬ takA mem p n s → v1 = -1 ∧ GRX kd1 ln1 m1 sz1 mem) ∧ (takA mem p n s → ¬ takB mem s j → v1 = -2 ∧ GRX kd1 ln1 m1 sz1 mem) ∧ (takA mem p n s → takB mem s j → (takV mem p n s j = 0 → v1 = -3 ∧ GRX kd1 ln1 m1 sz1 mem) ∧ (takV mem p n s j ≠ 0 → (takV mem p n s j < -1000000 ∨ takV mem p n s j > 1000000 ∨ mem 35 45 = 60) → v1 = -1 ∧ GRX kd1 ln1 m1 sz1 mem) ∧ (takV mem p n s j ≠ 0 → ¬ (takV mem p n s j < -1000000 ∨ takV mem p n s j > 1000000 ∨ mem 35 45 = 60) → v1 = mem 35 45 ∧ GRX kd1 ln1 m1 sz1 (slipM mem p n 9 (takV mem p n s j)))) ∧ MKP mem m1)) (h2 : SR m2 ∧ ((¬ takA m1 p n s → v2 = -1 ∧ m2 = m1) ∧ (takA m1 p n s → ¬ takB m1 s j → v2 = -2 ∧ m2 = m1) ∧ (takA m1 p n s → takB m1 s j → (takV m1 p n s j = 0 → v2 = -3 ∧ FR m1 m2) ∧ (takV m1 p n s j ≠ 0 → (takV m1 p n s j < -1000000 ∨ takV m1 p n s j > 1000000 ∨ m1 35 45 = 60) → v2 = -1 ∧ FR m1 m2) ∧ (takV m1 p n s j ≠ 0 → ¬ (takV m1 p n s j < -1000000 ∨ takV m1 p n s j > 1000000 ∨ m1 35 45 = 60) → v2 = m1 35 45 ∧ ∃ m : Int → Int → Int, FR m1 m ∧ m2 = slipM m p n 9 (takV m1 p n s j))))) : v1 = v2 ∧ LI kd1 ln1 m2 sz1 := by
  obtain ⟨hSK, hHK, he, hMI, hS1⟩ := MD_take hI hE h1
  obtain ⟨hR1, a1, a2, a3, hmk⟩ := h1
  obtain ⟨hk, hB⟩ := hmk
  obtain ⟨hS2, b1, b2, b3⟩ := h2
  have eA : takA m1 p n s ↔ takA mem p n s := by rw [ovr_ex he]; exact Iff.rfl
  have eB : takB m1 s j ↔ takB mem s j := by rw [ovr_ex he]; exact Iff.rfl
  have eV : takV m1 p n s j = takV mem p n s j := by rw [ovr_ex he]; exact cg_takV _ _ p n s j
  have eN : m1 35 45 = mem 35 45 := he 35 45 (by omega)
  have hz1 : Z47 m1 := hz.eqs he
  have same : ∀ tg1 : Int → Int, GRP kd1 ln1 m1 sz1 tg1 mem → FR m1 m2 → LI kd1 ln1 m2 sz1 := fun tg1 hG hF => ⟨tg1, hI.fin hE hR1 hB hG (fun r k q => hF r k (by omega) (by omega) (by omega) (by omega)) (fun r k q => (hF r k (by omega) (by omega) (by omega) (by omega)).trans (he r k q)) (hMI.eqs (FR.qs hF)) hS2, hz1.eqs (FR.qs hF)⟩
  have sam0 : ∀ tg1 : Int → Int, GRP kd1 ln1 m1 sz1 tg1 mem → m2 = m1 → LI kd1 ln1 m2 sz1 := fun tg1 hG h4 => ⟨tg1, hI.fin hE hR1 hB hG (fun r k q => by rw [h4]) (by rw [h4]; exact he) (by rw [h4]; exact hMI) hS2, by rw [h4]; exact hz1⟩
  by_cases cA : takA mem p n s
  · by_cases cB : takB mem s j
    · obtain ⟨c1, c2, c3⟩ := a3 cA cB
      obtain ⟨d1, d2, d3⟩ := b3 (eA.mpr cA) (eB.mpr cB)
      rw [eV] at d1 d2 d3
      rw [eN] at d2 d3
      by_cases cV : takV mem p n s j = 0
      · obtain ⟨e1, tg1, hG⟩ := c1 cV
        obtain ⟨e2, h4⟩ := d1 cV
        exact ⟨e1.trans e2.symm, same tg1 hG h4⟩
      · by_cases cW : takV mem p n s j < -1000000 ∨ takV mem p n s j > 1000000 ∨ mem 35 45 = 60
        · obtain ⟨e1, tg1, hG⟩ := c2 cV cW
          obtain ⟨e2, h4⟩ := d2 cV cW
          exact ⟨e1.trans e2.symm, same tg1 hG h4⟩
        · obtain ⟨e1, tg1, hG⟩ := c3 cV cW
          obtain ⟨e2, mF, hF, h4⟩ := d3 cV cW
          have hMF : MI mF := hMI.eqs (FR.qs hF)
          have heF : EQS mem mF := fun r k q => (FR.qs hF r k q).trans (he r k q)
          have hsc : slipC mF p n 9 (takV mem p n s j) := by
            have q0 : slipC mem p n 9 (takV mem p n s j) := ⟨cA.1, cA.2.1, Or.inl rfl, by omega, cV, by omega⟩
            rw [ovr_ex heF]
            exact q0
          refine ⟨e1.trans e2.symm, tg1, hI.fin hE hR1 hB hG (fun r k q => ?_) (fun r k q => ?_) (by rw [h4]; exact hMF.k_slip _ _ _ _ hsc) hS2, ?_⟩
          · rw [h4]
            unfold slipM
            rw [s2_a (by omega), s2_a (by omega), s2_a (by omega), s2_a (by omega), s2_a (by omega), s2_a (by omega), s2_a (by omega)]
            exact hF r k (by omega) (by omega) (by omega) (by omega)
          · rw [h4]
            unfold slipM
            rw [heF 35 45 (by omega), heF 35 0 (by omega)]
            unfold set2
            rw [heF r k q]
          · rw [h4]; exact (show Z47 mF from hz.eqs heF)
    · obtain ⟨e1, tg1, hG⟩ := a2 cA cB
      obtain ⟨e2, h4⟩ := b2 (eA.mpr cA) (fun u => cB (eB.mp u))
      exact ⟨e1.trans e2.symm, sam0 tg1 hG h4⟩
  · obtain ⟨e1, tg1, hG⟩ := a1 cA
    obtain ⟨e2, h4⟩ := b1 (fun u => cA (eA.mp u))
    exact ⟨e1.trans e2.symm, sam0 tg1 hG h4⟩
theorem MD_copy {kd kd1 : Int → Nat} {ln ln1 : Int → Int} {mem m1 : Int → Int → Int} {sz sz1 : Nat} {tg : Int → Int} {p : Int} {v1 : Int} (hI : INV kd ln mem sz tg) (hE : EXT kd ln sz kd1 ln1 sz1) (h1 : HR m1 ∧ (((isPlt mem p ∧ mem 35 79 ≠ 8) → v1 = mem 35 79 ∧ ∀ M' : Int → Int → Int, CPM mem M' p → GRX kd1 ln1 m1 sz1 M') ∧ (¬ (isPlt mem p ∧ mem 35 79 ≠ 8) → v1 = -1 ∧ GRX kd1 ln1 m1 sz1 mem) ∧ MKP mem m1)) : SK kd1 ln1 ∧ HK kd1 ln1 ∧ EQS mem m1 ∧ MI m1 ∧ SR m1 := by
  obtain ⟨hR1, -, -, hmk⟩ := h1
  obtain ⟨hk, hB⟩ := hmk
  have hs := hI.1.2.2.2.2.1
  obtain ⟨he, hMI, hS1⟩ := MI.aft hI (fun a j q1 q2 => hk a j q1 (by omega))
  exact ⟨hI.1.1.ext hE hs, hI.1.2.1.ext hE (by omega), he, hMI, hS1⟩
theorem ST_copy {kd kd1 : Int → Nat} {ln ln1 : Int → Int} {mem m1 m2 : Int → Int → Int} {sz sz1 : Nat} {tg : Int → Int} {p : Int} {v1 v2 : Int} (hI : INV kd ln mem sz tg) (hz : Z47 mem) (hE : EXT kd ln sz kd1 ln1 sz1) (h1 : HR m1 ∧ (((isPlt mem p ∧ mem 35 79 ≠ 8) → v1 = mem 35 79 ∧ ∀ M' : Int → Int → Int, CPM mem M' p → GRX kd1 ln1 m1 sz1 M') ∧ (¬ (isPlt mem p ∧ mem 35 79 ≠ 8) → v1 = -1 ∧ GRX kd1 ln1 m1 sz1 mem) ∧ MKP mem m1)) (h2 : SR m2 ∧ (((isPlt m1 p ∧ m1 35 79 ≠ 8) → v2 = m1 35 79 ∧ CPM m1 m2 p) ∧ (¬ (isPlt m1 p ∧ m1 35 79 ≠ 8) → v2 = -1 ∧ m2 = m1))) : v1 = v2 ∧ LI kd1 ln1 m2 sz1 := by
  obtain ⟨hSK, hHK, he, hMI, hS1⟩ := MD_copy hI hE h1
  obtain ⟨hR1, h1c, h1n, hmk⟩ := h1
  obtain ⟨hk, hB⟩ := hmk
  have hz1 : Z47 m1 := hz.eqs he
  have ec : (isPlt m1 p ∧ m1 35 79 ≠ 8) ↔ (isPlt mem p ∧ mem 35 79 ≠ 8) := by rw [ovr_ex he]; exact Iff.rfl
  obtain ⟨hS2, h2c, h2n⟩ := h2
  have bl : ∀ r k : Int, 35 ≤ r → r ≤ 99 → bld mem m2 r k = m2 r k := fun r k u1 u2 => if_pos ⟨u1, u2⟩
  have bo : ∀ r k : Int, (r < 35 ∨ 99 < r) → bld mem m2 r k = mem r k := fun r k u => if_neg (by omega)
  by_cases hc : isPlt mem p ∧ mem 35 79 ≠ 8
  · obtain ⟨e1, hGR⟩ := h1c hc
    obtain ⟨e2, hP⟩ := h2c (ec.mpr hc)
    have eN := he 35 79 (by omega)
    have hP' := hP
    obtain ⟨p1, p2, p3, p4⟩ := hP
    rw [eN, he 47 p (by omega)] at p1 p4
    rw [eN] at p2 p3
    have hfr : ∀ r k : Int, (r < 35 ∨ 99 < r) → m2 r k = m1 r k := fun r k q => p1 r k (by omega) (by omega) (by omega)
    have hQ : CPM mem (bld mem m2) p := by
      refine ⟨fun r k q1 q2 q3 => ?_, ?_, ?_, fun k q1 q2 => ?_⟩
      · by_cases w : 35 ≤ r ∧ r ≤ 99
        · rw [bl r k w.1 w.2, p1 r k q1 q2 q3]; exact hk r k w.1 (by omega)
        · exact bo r k (by omega)
      · rw [bl 88 _ (by decide) (by decide)]; exact p2
      · rw [bl 35 _ (by decide) (by decide)]; exact p3
      · rw [bl 89 _ (by decide) (by decide), p4 k q1 q2]
        rw [ovr_ex he]
        exact cg_prtV _ _ p k
    obtain ⟨tg1, hG⟩ := hGR (bld mem m2) hQ
    exact ⟨e1.trans (eN.symm.trans e2.symm), tg1, hI.fin hE hR1 hB hG hfr (fun r k q => (bl r k q.1 q.2.1).symm) (hMI.k_copy (ec.mpr hc) hP') hS2, fun q u1 u2 => by
      rw [p1 35 33 (by omega) (by omega) (by omega)] at u1
      rw [p1 47 q (by omega) (by omega) (by omega)]
      exact hz1 q u1 u2⟩
  · obtain ⟨e1, tg1, hG⟩ := h1n hc
    obtain ⟨e2, h4⟩ := h2n (fun u => hc (ec.mp u))
    exact ⟨e1.trans e2.symm, tg1, hI.fin hE hR1 hB hG (fun r k q => by rw [h4]) (by rw [h4]; exact he) (by rw [h4]; exact hMI) hS2, by rw [h4]; exact hz1⟩
theorem MD_plan {kd kd1 : Int → Nat} {ln ln1 : Int → Int} {mem m1 : Int → Int → Int} {sz sz1 : Nat} {tg : Int → Int} {v1 : Int} (hI : INV kd ln mem sz tg) (hE : EXT kd ln sz kd1 ln1 sz1) (h1 : HR m1 ∧ (((plnC mem) → v1 = mem 35 16 ∧ ∀ M' : Int → Int → Int, PLM mem M' (mem 35 16) (fauP (mem 39) (mem 35 11)).2.2 → GRX kd1 ln1 m1 sz1 M') ∧ (¬ (plnC mem) → v1 = -1 ∧ GRX kd1 ln1 m1 sz1 mem) ∧ MKP mem m1)) : SK kd1 ln1 ∧ HK kd1 ln1 ∧ EQS mem m1 ∧ MI m1 ∧ SR m1 := by
  obtain ⟨hR1, -, -, hmk⟩ := h1
  obtain ⟨hk, hB⟩ := hmk
  have hs := hI.1.2.2.2.2.1
  obtain ⟨he, hMI, hS1⟩ := MI.aft hI (fun a j q1 q2 => hk a j q1 (by omega))
  exact ⟨hI.1.1.ext hE hs, hI.1.2.1.ext hE (by omega), he, hMI, hS1⟩
theorem ST_plan {kd kd1 : Int → Nat} {ln ln1 : Int → Int} {mem m1 m2 : Int → Int → Int} {sz sz1 : Nat} {tg : Int → Int} {v1 v2 : Int} (hI : INV kd ln mem sz tg) (hz : Z47 mem) (hE : EXT kd ln sz kd1 ln1 sz1) (h1 : HR m1 ∧ (((plnC mem) → v1 = mem 35 16 ∧ ∀ M' : Int → Int → Int, PLM mem M' (mem 35 16) (fauP (mem 39) (mem 35 11)).2.2 → GRX kd1 ln1 m1 sz1 M') ∧ (¬ (plnC mem) → v1 = -1 ∧ GRX kd1 ln1 m1 sz1 mem) ∧ MKP mem m1)) (h2 : SR m2 ∧ ((plnC m1 → v2 = m1 35 16 ∧ PLM m1 m2 (m1 35 16) (fauP (m1 39) (m1 35 11)).2.2) ∧ (¬ plnC m1 → v2 = -1 ∧ FPF m1 m2))) : v1 = v2 ∧ LI kd1 ln1 m2 sz1 := by
  obtain ⟨hSK, hHK, he, hMI, hS1⟩ := MD_plan hI hE h1
  obtain ⟨hR1, h1c, h1n, hmk⟩ := h1
  obtain ⟨hk, hB⟩ := hmk
  have hz1 : Z47 m1 := hz.eqs he
  have ec : (plnC m1) ↔ (plnC mem) := by rw [ovr_ex he]; exact Iff.rfl
  obtain ⟨hS2, h2c, h2n⟩ := h2
  have bl : ∀ r k : Int, 35 ≤ r → r ≤ 99 → bld mem m2 r k = m2 r k := fun r k u1 u2 => if_pos ⟨u1, u2⟩
  have bo : ∀ r k : Int, (r < 35 ∨ 99 < r) → bld mem m2 r k = mem r k := fun r k u => if_neg (by omega)
  by_cases hc : plnC mem
  · obtain ⟨e1, hGR⟩ := h1c hc
    obtain ⟨e2, hP⟩ := h2c (ec.mpr hc)
    have eN := he 35 16 (by omega)
    have hP' := hP
    obtain ⟨p1, p2, p3, p4, p5, p6⟩ := hP
    have e39 : m1 39 = mem 39 := funext fun k => he 39 k (by omega)
    rw [e39, he 35 11 (by omega)] at p2 p3 p4
    rw [eN] at p1 p2 p3 p6
    have hfr : ∀ r k : Int, (r < 35 ∨ 99 < r) → m2 r k = m1 r k := fun r k q => p1 r k (by omega) (by omega) (by omega) (by omega)
    have hQ : PLM mem (bld mem m2) (mem 35 16) (fauP (mem 39) (mem 35 11)).2.2 := by
      refine ⟨fun r k q1 q2 q3 q4 => ?_, ?_, ?_, p4, ?_, ?_⟩
      · by_cases w : 35 ≤ r ∧ r ≤ 99
        · rw [bl r k w.1 w.2, p1 r k q1 q2 q3 q4]; exact hk r k w.1 (by omega)
        · exact bo r k (by omega)
      · rw [show bld mem m2 41 = m2 41 from funext fun k => bl 41 k (by decide) (by decide)]; exact p2
      · rw [bl 42 _ (by decide) (by decide)]; exact p3
      · rw [bl 35 _ (by decide) (by decide)]; exact p5
      · rw [bl 35 _ (by decide) (by decide)]; exact p6
    obtain ⟨tg1, hG⟩ := hGR (bld mem m2) hQ
    exact ⟨e1.trans (eN.symm.trans e2.symm), tg1, hI.fin hE hR1 hB hG hfr (fun r k q => (bl r k q.1 q.2.1).symm) (hMI.k_plan (ec.mpr hc) hP') hS2, fun q u1 u2 => by
      rw [p1 35 33 (by omega) (by omega) (by omega) (by omega)] at u1
      rw [p1 47 q (by omega) (by omega) (by omega) (by omega)]
      exact hz1 q u1 u2⟩
  · obtain ⟨e1, tg1, hG⟩ := h1n hc
    obtain ⟨e2, h4⟩ := h2n (fun u => hc (ec.mp u))
    exact ⟨e1.trans e2.symm, tg1, hI.fin hE hR1 hB hG (fun r k q => h4 r k (by omega) (by omega)) (fun r k q => (FPS.qs h4 r k q).trans (he r k q)) (hMI.eqs (FPS.qs h4)) hS2, hz1.eqs (FPS.qs h4)⟩
theorem MD_set {kd kd1 : Int → Nat} {ln ln1 : Int → Int} {mem m1 : Int → Int → Int} {sz sz1 : Nat} {tg : Int → Int} {p : Int} {v1 : Int} (hI : INV kd ln mem sz tg) (hE : EXT kd ln sz kd1 ln1 sz1) (h1 : HR m1 ∧ ((isPg mem p → v1 = 1 ∧ ∀ M' : Int → Int → Int, SETM mem M' p → GRX kd1 ln1 m1 sz1 M') ∧ (¬ isPg mem p → v1 = 0 ∧ GRX kd1 ln1 m1 sz1 mem) ∧ MKP mem m1)) : SK kd1 ln1 ∧ HK kd1 ln1 ∧ EQS mem m1 ∧ MI m1 ∧ SR m1 := by
  obtain ⟨hR1, -, -, hmk⟩ := h1
  obtain ⟨hk, hB⟩ := hmk
  have hs := hI.1.2.2.2.2.1
  obtain ⟨he, hMI, hS1⟩ := MI.aft hI (fun a j q1 q2 => hk a j q1 (by omega))
  exact ⟨hI.1.1.ext hE hs, hI.1.2.1.ext hE (by omega), he, hMI, hS1⟩
theorem ST_set {kd kd1 : Int → Nat} {ln ln1 : Int → Int} {mem m1 m2 : Int → Int → Int} {sz sz1 : Nat} {tg : Int → Int} {p : Int} {v1 v2 : Int} (hI : INV kd ln mem sz tg) (hz : Z47 mem) (hE : EXT kd ln sz kd1 ln1 sz1) (h1 : HR m1 ∧ ((isPg mem p → v1 = 1 ∧ ∀ M' : Int → Int → Int, SETM mem M' p → GRX kd1 ln1 m1 sz1 M') ∧ (¬ isPg mem p → v1 = 0 ∧ GRX kd1 ln1 m1 sz1 mem) ∧ MKP mem m1)) (h2 : (v2 = 1 ∧ SR m2 ∧ ((True ↔ isPg m1 p) ∧ (¬ isPg m1 p → m2 = m1) ∧ (isPg m1 p → SETM m1 m2 p))) ∨ (v2 = 0 ∧ SR m2 ∧ ((False ↔ isPg m1 p) ∧ (¬ isPg m1 p → m2 = m1) ∧ (isPg m1 p → SETM m1 m2 p)))) : v1 = v2 ∧ LI kd1 ln1 m2 sz1 := by
  obtain ⟨hSK, hHK, he, hMI, hS1⟩ := MD_set hI hE h1
  obtain ⟨hR1, h1c, h1n, hmk⟩ := h1
  obtain ⟨hk, hB⟩ := hmk
  have hz1 : Z47 m1 := hz.eqs he
  have ec : isPg m1 p ↔ isPg mem p := by rw [ovr_ex he]; exact Iff.rfl
  have hS2 : SR m2 := by rcases h2 with ⟨-, w, -⟩ | ⟨-, w, -⟩ <;> exact w
  by_cases hc : isPg mem p
  · obtain ⟨e1, hGR⟩ := h1c hc
    have e2 : v2 = 1 := by
      rcases h2 with ⟨w, -⟩ | ⟨-, -, w, -⟩
      · exact w
      · exact absurd (w.mpr (ec.mpr hc)) (fun u => u)
    have hP : SETM m1 m2 p := by
      rcases h2 with ⟨-, -, -, -, w⟩ | ⟨-, -, -, -, w⟩ <;> exact w (ec.mpr hc)
    have hP' := hP
    obtain ⟨m, s1, s2, s3, h4⟩ := hP
    obtain ⟨M3, hM3⟩ : ∃ M3 : Int → Int → Int, M3 = bld mem m := ⟨_, rfl⟩
    have bl : ∀ r k : Int, 35 ≤ r → r ≤ 99 → M3 r k = m r k := fun r k u1 u2 => by rw [hM3]; exact if_pos ⟨u1, u2⟩
    have bo : ∀ r k : Int, (r < 35 ∨ 99 < r) → M3 r k = mem r k := fun r k u => by rw [hM3]; exact if_neg (by omega)
    have e72 := he 35 72 (by omega)
    obtain ⟨k1, k2⟩ := cmM_cg (p := p) (m := M3) (m' := m) (fun r k u1 u2 => bl r k (by omega) (by omega)) (mem 35 72).toNat
    rw [he 47 p (by omega)] at s1 s3
    rw [e72] at h4
    have hQ : SETM mem (set2 (cmM p (mem 35 72).toNat M3).2 35 72 (cmM p (mem 35 72).toNat M3).1) p := by
      refine ⟨M3, fun r k q1 q2 q3 => ?_, ?_, fun k q1 q2 => ?_, rfl⟩
      · by_cases w : 35 ≤ r ∧ r ≤ 99
        · rw [bl r k w.1 w.2, s1 r k q1 q2 q3]; exact hk r k w.1 (by omega)
        · exact bo r k (by omega)
      · rw [bl 82 _ (by decide) (by decide)]; exact s2
      · rw [bl 83 _ (by decide) (by decide), s3 k q1 q2]
        rw [ovr_ex he, cg_numQ, cg_knw, cg_keptV]
    obtain ⟨tg1, hG⟩ := hGR _ hQ
    obtain ⟨f1, f2, f3⟩ := cmM_fr p m (mem 35 72).toNat
    have eo : ∀ r k : Int, ¬ (r = 35 ∧ k = 72) → (r < 84 ∨ 87 < r) → m2 r k = m r k := fun r k u1 u2 => by
      rw [h4]
      unfold set2
      rw [if_neg u1]
      exact f3 r k (by omega)
    refine ⟨e1.trans e2.symm, tg1, hI.fin hE hR1 hB hG (fun r k q => ?_) (fun r k q => ?_) (hMI.k_set (ec.mpr hc) hP') hS2, fun q u1 u2 => ?_⟩
    · rw [eo r k (by omega) (by omega)]
      exact s1 r k (by omega) (by omega) (by omega)
    · rw [h4, k1]
      unfold set2
      rw [k2 r k (bl r k q.1 q.2.1)]
    · rw [eo 35 33 (by omega) (by omega), s1 35 33 (by omega) (by omega) (by omega)] at u1
      rw [eo 47 q (by omega) (by omega), s1 47 q (by omega) (by omega) (by omega)]
      exact hz1 q u1 u2
  · obtain ⟨e1, tg1, hG⟩ := h1n hc
    have e2 : v2 = 0 := by
      rcases h2 with ⟨-, -, w, -⟩ | ⟨w, -⟩
      · exact absurd (ec.mp (w.mp trivial)) hc
      · exact w
    have h4 : m2 = m1 := by
      rcases h2 with ⟨-, -, -, w, -⟩ | ⟨-, -, -, w, -⟩ <;> exact w (fun u => hc (ec.mp u))
    exact ⟨e1.trans e2.symm, tg1, hI.fin hE hR1 hB hG (fun r k q => by rw [h4]) (by rw [h4]; exact he) (by rw [h4]; exact hMI) hS2, by rw [h4]; exact hz1⟩
theorem MD_page {kd kd1 : Int → Nat} {ln ln1 : Int → Int} {mem m1 : Int → Int → Int} {sz sz1 : Nat} {tg : Int → Int} {f w n t : Int} {v1 : Int} (hI : INV kd ln mem sz tg) (hE : EXT kd ln sz kd1 ln1 sz1) (h1 : HR m1 ∧ (((pgC1 mem f w n t ∧ pgC2 (tTT mem t) (tLL mem t) w n ∧ pgC3 (tTT mem t) (tLL mem t) w n) → v1 = mem 35 33 ∧ ∀ M' : Int → Int → Int, PGM mem M' (tTT mem t) (tLL mem t) f w n → GRX kd1 ln1 m1 sz1 M') ∧ (¬ (pgC1 mem f w n t ∧ pgC2 (tTT mem t) (tLL mem t) w n ∧ pgC3 (tTT mem t) (tLL mem t) w n) → v1 = -1 ∧ ∀ M' : Int → Int → Int, PGF mem M' → GRX kd1 ln1 m1 sz1 M') ∧ MKP mem m1)) : SK kd1 ln1 ∧ HK kd1 ln1 ∧ EQS mem m1 ∧ MI m1 ∧ SR m1 := by
  obtain ⟨hR1, -, -, hmk⟩ := h1
  obtain ⟨hk, hB⟩ := hmk
  have hs := hI.1.2.2.2.2.1
  obtain ⟨he, hMI, hS1⟩ := MI.aft hI (fun a j q1 q2 => hk a j q1 (by omega))
  exact ⟨hI.1.1.ext hE hs, hI.1.2.1.ext hE (by omega), he, hMI, hS1⟩
theorem ST_page {kd kd1 : Int → Nat} {ln ln1 : Int → Int} {mem m1 m2 : Int → Int → Int} {sz sz1 : Nat} {tg : Int → Int} {f w n t : Int} {v1 v2 : Int} (hI : INV kd ln mem sz tg) (hz : Z47 mem) (hE : EXT kd ln sz kd1 ln1 sz1) (h1 : HR m1 ∧ (((pgC1 mem f w n t ∧ pgC2 (tTT mem t) (tLL mem t) w n ∧ pgC3 (tTT mem t) (tLL mem t) w n) → v1 = mem 35 33 ∧ ∀ M' : Int → Int → Int, PGM mem M' (tTT mem t) (tLL mem t) f w n → GRX kd1 ln1 m1 sz1 M') ∧ (¬ (pgC1 mem f w n t ∧ pgC2 (tTT mem t) (tLL mem t) w n ∧ pgC3 (tTT mem t) (tLL mem t) w n) → v1 = -1 ∧ ∀ M' : Int → Int → Int, PGF mem M' → GRX kd1 ln1 m1 sz1 M') ∧ MKP mem m1)) (h2 : SR m2 ∧ (((pgC1 m1 f w n t ∧ pgC2 ((tTT mem) t) ((tLL mem) t) w n ∧ pgC3 ((tTT mem) t) ((tLL mem) t) w n) → v2 = m1 35 33 ∧ PGM m1 m2 ((tTT mem) t) ((tLL mem) t) f w n) ∧ (¬ (pgC1 m1 f w n t ∧ pgC2 ((tTT mem) t) ((tLL mem) t) w n ∧ pgC3 ((tTT mem) t) ((tLL mem) t) w n) → v2 = -1 ∧ PGF m1 m2))) : v1 = v2 ∧ LI kd1 ln1 m2 sz1 := by
  obtain ⟨hSK, hHK, he, hMI, hS1⟩ := MD_page hI hE h1
  obtain ⟨hR1, h1c, h1n, hmk⟩ := h1
  obtain ⟨hk, hB⟩ := hmk
  have hz1 : Z47 m1 := hz.eqs he
  have ec : pgC1 m1 f w n t ↔ pgC1 mem f w n t := by rw [ovr_ex he]; exact Iff.rfl
  obtain ⟨hS2, h2c, h2n⟩ := h2
  have bl : ∀ r k : Int, 35 ≤ r → r ≤ 99 → bld mem m2 r k = m2 r k := fun r k u1 u2 => if_pos ⟨u1, u2⟩
  have bo : ∀ r k : Int, (r < 35 ∨ 99 < r) → bld mem m2 r k = mem r k := fun r k u => if_neg (by omega)
  have eN := he 35 33 (by omega)
  by_cases hc : pgC1 mem f w n t ∧ pgC2 (tTT mem t) (tLL mem t) w n ∧ pgC3 (tTT mem t) (tLL mem t) w n
  · obtain ⟨e1, hGR⟩ := h1c hc
    obtain ⟨e2, hP⟩ := h2c ⟨ec.mpr hc.1, hc.2⟩
    have hpl := hI.plsm.2.2 t hc.1.2.2.2.1.1 hc.1.2.2.2.1.2
    have hM2 := hMI.k_page hz1 hpl.1.1 hpl.2.1 (ec.mpr hc.1) hc.2.1 hc.2.2 hP
    obtain ⟨p1, p33, p45, p46, p47, p48, p49, p50, p51, p52, p53, prow⟩ := hP
    rw [eN] at p1 p33 p45 p46 p47 p48 p49 p50 p51 p52 p53 prow
    have hfr : ∀ r k : Int, (r < 35 ∨ 99 < r) → m2 r k = m1 r k := fun r k q => p1 r k (by omega) (by omega) (by omega) (by omega) (by omega)
    have hQ : PGM mem (bld mem m2) (tTT mem t) (tLL mem t) f w n := by
      refine ⟨fun r k q1 q2 q3 q4 q5 => ?_, (bl 35 _ (by decide) (by decide)).trans p33, (bl 45 _ (by decide) (by decide)).trans p45, (bl 46 _ (by decide) (by decide)).trans p46, (bl 47 _ (by decide) (by decide)).trans p47, (bl 48 _ (by decide) (by decide)).trans p48, (bl 49 _ (by decide) (by decide)).trans p49, (bl 50 _ (by decide) (by decide)).trans p50, (bl 51 _ (by decide) (by decide)).trans p51, (bl 52 _ (by decide) (by decide)).trans p52, (bl 53 _ (by decide) (by decide)).trans p53, fun k q1 q2 => ?_⟩
      · by_cases x : 35 ≤ r ∧ r ≤ 99
        · rw [bl r k x.1 x.2, p1 r k q1 q2 q3 q4 q5]; exact hk r k x.1 (by omega)
        · exact bo r k (by omega)
      · obtain ⟨r1, r2, r3, r4, r5⟩ := prow k q1 q2
        exact ⟨(bl 54 _ (by decide) (by decide)).trans r1, (bl 55 _ (by decide) (by decide)).trans r2, (bl 56 _ (by decide) (by decide)).trans r3, (bl 57 _ (by decide) (by decide)).trans r4, (bl 58 _ (by decide) (by decide)).trans r5⟩
    obtain ⟨tg1, hG⟩ := hGR (bld mem m2) hQ
    exact ⟨e1.trans (eN.symm.trans e2.symm), tg1, hI.fin hE hR1 hB hG hfr (fun r k q => (bl r k q.1 q.2.1).symm) hM2.1 hS2, hM2.2⟩
  · obtain ⟨e1, hGR⟩ := h1n hc
    obtain ⟨e2, hP⟩ := h2n (fun u => hc ⟨ec.mp u.1, u.2⟩)
    have hM2 := hMI.k_pgf hz1 hP
    unfold PGF at hP
    rw [eN] at hP
    have hQ : PGF mem (bld mem m2) := fun r k q1 q2 q3 q4 => by
      by_cases x : 35 ≤ r ∧ r ≤ 99
      · rw [bl r k x.1 x.2, hP r k q1 q2 q3 q4]; exact hk r k x.1 (by omega)
      · exact bo r k (by omega)
    obtain ⟨tg1, hG⟩ := hGR (bld mem m2) hQ
    exact ⟨e1.trans e2.symm, tg1, hI.fin hE hR1 hB hG (fun r k q => hP r k (by omega) (by omega) (by omega) (by omega)) (fun r k q => (bl r k q.1 q.2.1).symm) hM2.1 hS2, hM2.2⟩
end STEPZ
