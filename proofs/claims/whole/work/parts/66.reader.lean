section
/-- a label, kept shut -/
def LBL (c : Int) : Prop := isLb c
theorem c_X11_isLabelO {l : Launch} {g : GP} (hG : GH g) {kd : Int → Nat} {ln : Int → Int} {mem : Int → Int → Int} {sz : Nat} (c : Int) (h_c : InI c) : MT l g yX11_isLabel cX11_isLabel 1 (some .boolean) 0 0 0 [(0, c)] kd ln mem sz (pB (LBL c) kd ln mem sz) := c_X11_isLabel hG c h_c
/-- a text at p -/
def TXT (kd : Int → Nat) (ln : Int → Int) (mem : Int → Int → Int) (p r : Int) (T : Int → Int) (L : Int) : Prop := kd p = 12 ∧ 3 ≤ p ∧ mem p 0 = r ∧ mem p 1 = L ∧ kd r = 20 ∧ 3 ≤ r ∧ mem r = T ∧ 0 ≤ L ∧ L ≤ ln r ∧ ln r ≤ 160 ∧ ∀ i : Int, 0 ≤ i → i < L → 0 ≤ T i ∧ T i ≤ 255
/-- the reader, opened -/
def opR (mem : Int → Int → Int) (x : Int) : Int → Int → Int := set2 (set2 (set2 (set2 mem 7 0 x) 7 1 0) 7 2 (-1)) 7 6 0
theorem opR_o {mem : Int → Int → Int} {x b j : Int} (h : b ≠ 7) : opR mem x b j = mem b j := by
  unfold opR
  rw [s2_a h, s2_a h, s2_a h, s2_a h]
theorem opR_st {kd : Int → Nat} {ln : Int → Int} {p r : Int} {T : Int → Int} {L : Int} {mem mm : Int → Int → Int} (h : TXT kd ln mem p r T L) (hk : kd 7 = 7) (he : EB mm) (h0 : mm 7 0 = p) (h1 : mm 7 1 = 0) (h2 : mm 7 2 = -1) (ho : ∀ b j : Int, b ≠ 7 → mm b j = mem b j) : STT kd ln p r T L mm := by
  obtain ⟨h3, h4, h5, h6, h7, h8, h9, h10⟩ := h
  have ht : p ≠ 7 := fun q1 => by rw [q1, hk] at h3; omega
  have hr : r ≠ 7 := fun q1 => by rw [q1, hk] at h7; omega
  refine ⟨⟨hk, h0, h3, h4, (ho _ _ ht).trans h5, (ho _ _ ht).trans h6, h7, h8, by rw [← h9]; funext j; exact ho _ _ hr, h10⟩, he, fun _ => by omega, by rw [h2]; exact ⟨by decide, by decide⟩⟩
theorem clP_1 {T : Int → Int} {L a : Int} (h : ¬ isLb (chr T L (skp T L a))) : clP T L a = erC (skp T L a) := if_pos h
theorem clP_2 {T : Int → Int} {L a : Int} (h : isLb (chr T L (skp T L a))) (h2 : chr T L (skp T L (skp T L a + 1)) ≠ 58) : clP T L a = erC (skp T L (skp T L a + 1)) := by
  unfold clP
  rw [if_neg (fun q => q h), if_pos h2]
theorem clP_3 {T : Int → Int} {L a : Int} (h : isLb (chr T L (skp T L a))) (h2 : chr T L (skp T L (skp T L a + 1)) = 58) : clP T L a = bodC T L (chr T L (skp T L a)) (skp T L (skp T L (skp T L a + 1) + 1)) := by
  unfold clP
  rw [if_neg (fun q => q h), if_neg (by omega)]
theorem RCR.up {mem m mm : Int → Int → Int} {cr : CR} {v sr a w : Int} (h : RCR m mm cr v sr) (hm : m = upR mem a w) : RCR mem mm cr v sr := by
  subst hm
  refine ⟨fun e => ?_, fun e => ?_⟩
  · obtain ⟨x1, x2, x3⟩ := h.1 e
    rw [upR_up] at x1
    rw [envR_up] at x2 x3
    exact ⟨x1, x2, x3⟩
  · obtain ⟨a', x1⟩ := h.2 e
    rw [upR_up] at x1
    exact ⟨a', x1⟩
/-- a clause read from its label on -/
theorem cl_read {m m3 m4 m5 : Int → Int → Int} {T : Int → Int} {L v sr : Int} (ha : 0 ≤ m 7 1 ∧ m 7 1 ≤ L) (h3 : (LBL (chr T L (skp T L (m 7 1))) ∧ m3 = upR m (skp T L (m 7 1) + 1) (-1)) ∨ (¬ LBL (chr T L (skp T L (m 7 1))) ∧ m3 = upR m (skp T L (m 7 1) + 1) (skp T L (m 7 1))))
    (hd : m4 = (if nsV T L (m3 7 1) (m3 7 2) = 58 then upR m3 (nsA T L (m3 7 1) (m3 7 2) + 1) (m3 7 2) else upR m3 (nsA T L (m3 7 1) (m3 7 2) + 1) (rfW L (nsA T L (m3 7 1) (m3 7 2)) (m3 7 2)))) (hR : RCL T L (chr T L (skp T L (m 7 1))) m4 m5 v sr) : RCR m m5 (clP T L (m 7 1)) v sr := by
  have hsk := skp_f T L (m 7 1)
  have hs2 := hsk.2.1 ha.2
  rcases h3 with ⟨hl, h3⟩ | ⟨hl, h3⟩
  · have hl : isLb (chr T L (skp T L (m 7 1))) := hl
    have hlt : skp T L (m 7 1) < L := chr_lt T (by omega)
    have hk := skp_f T L (skp T L (m 7 1) + 1)
    have hk2 := hk.2.1 (by omega)
    have e1 : m3 7 1 = skp T L (m 7 1) + 1 := by rw [h3]; exact upR_1
    have e2 : m3 7 2 = -1 := by rw [h3]; exact upR_2
    rw [e1, e2, nsV_in, nsA_in] at hd
    by_cases q : chr T L (skp T L (skp T L (m 7 1) + 1)) = 58
    · rw [if_pos q, h3, upR_up] at hd
      have g1 := hR.1 (by rw [hd]; exact upR_2)
      rw [show m4 7 1 = skp T L (skp T L (m 7 1) + 1) + 1 from by rw [hd]; exact upR_1] at g1
      rw [clP_3 hl q]
      exact g1.up hd
    · rw [if_neg q, h3, upR_up, rfW_in hk2] at hd
      have w : m4 7 2 = skp T L (skp T L (m 7 1) + 1) := by rw [hd]; exact upR_2
      obtain ⟨a', x1⟩ := hR.2 (by omega)
      rw [w, hd, upR_up] at x1
      rw [clP_2 hl q]
      refine ⟨fun e => ?_, fun _ => ⟨a', x1⟩⟩
      have : skp T L (skp T L (m 7 1) + 1) = -1 := e
      omega
  · have e2 : m3 7 2 = skp T L (m 7 1) := by rw [h3]; exact upR_2
    have ne : m3 7 2 ≠ -1 := by omega
    rw [if_neg (by rw [nsV_no ne]; decide), rfW_no ne, e2, h3, upR_up] at hd
    have w : m4 7 2 = skp T L (m 7 1) := by rw [hd]; exact upR_2
    obtain ⟨a', x1⟩ := hR.2 (by omega)
    rw [w, hd, upR_up] at x1
    rw [clP_1 hl]
    refine ⟨fun e => ?_, fun _ => ⟨a', x1⟩⟩
    have : skp T L (m 7 1) = -1 := e
    omega
theorem RCR.w {mem mm : Int → Int → Int} {cr : CR} {v sr : Int} (h : RCR mem mm cr v sr) : mm 7 2 = cr.1 := by
  by_cases e : cr.1 = -1
  · rw [(h.1 e).1, s2_k (by decide), e]; exact upR_2
  · obtain ⟨a', x1⟩ := h.2 e
    rw [x1, s2_k (by decide)]; exact upR_2
theorem RCR.a {mem mm : Int → Int → Int} {cr : CR} {v sr : Int} (h : RCR mem mm cr v sr) (e : cr.1 = -1) : mm 7 1 = cr.2.1 := by
  rw [(h.1 e).1, s2_k (by decide)]; exact upR_1
theorem RCR.o {mem mm : Int → Int → Int} {cr : CR} {v sr b j : Int} (h : RCR mem mm cr v sr) (hb : b ≠ 7 ∨ (j ≠ 1 ∧ j ≠ 2 ∧ j ≠ 6)) : mm b j = mem b j := by
  have key : ∀ a w : Int, set2 (upR mem a w) 7 6 sr b j = mem b j := by
    intro a w
    unfold set2
    rw [if_neg (by omega)]
    exact upR_o (by omega)
  by_cases e : cr.1 = -1
  · rw [(h.1 e).1]; exact key _ _
  · obtain ⟨a', x1⟩ := h.2 e
    rw [x1]; exact key _ _
theorem clsL_s1 {T : Int → Int} {L : Int} {k : Nat} {a : Int} {c : List Int} : (clsL T L (k + 1) a c).1 = (if (clP T L a).1 ≠ -1 then (clP T L a).1 else if chr T L (skp T L (clP T L a).2.1) = 59 then (clsL T L k (skp T L (clP T L a).2.1 + 1) (c ++ enC (clP T L a))).1 else if chr T L (skp T L (clP T L a).2.1) = -1 then -1 else skp T L (clP T L a).2.1) := by
  rw [clsL]
  split
  · rfl
  · split
    · rfl
    · split <;> rfl
/-- the fault's loop -/
def FLJ (T : Int → Int) (L : Int) (m : Int → Int → Int) (G i : Int) : Prop :=
  (G = 1 ∧ m 7 2 = -1 ∧ i ≤ m 7 1 ∧ 0 ≤ m 7 1 ∧ m 7 1 ≤ L ∧ ∃ (k : Nat) (c : List Int), L - m 7 1 < k ∧ (clsL T L k (m 7 1) c).1 = (fauP T L).1) ∨
  (G = 0 ∧ ((m 7 2 ≠ -1 ∧ m 7 2 = (fauP T L).1) ∨ (m 7 2 = -1 ∧ (fauP T L).1 = (if chr T L (skp T L (m 7 1)) = -1 then -1 else skp T L (m 7 1)))))
theorem flj_step {T : Int → Int} {L i : Int} {m m5 m6 : Int → Int → Int} {v sr : Int} (h : FLJ T L m 1 i) (hR : RCR m m5 (clP T L (m 7 1)) v sr) : (nsV T L (m5 7 1) (m5 7 2) = 59 → m6 = upR m5 (nsA T L (m5 7 1) (m5 7 2) + 1) (m5 7 2) → FLJ T L m6 1 (i + 1)) ∧ (nsV T L (m5 7 1) (m5 7 2) ≠ 59 → m6 = upR m5 (nsA T L (m5 7 1) (m5 7 2)) (m5 7 2) → FLJ T L m6 0 (i + 1)) := by
  rcases h with ⟨-, h1, h2, h3, h4, k, c, h5, h6⟩ | ⟨h, -⟩
  · obtain ⟨k, rfl⟩ : ∃ j, k = j + 1 := ⟨k - 1, by omega⟩
    rw [clsL_s1] at h6
    have hg := clP_gd T L h3 h4
    have hw := hR.w
    by_cases e : (clP T L (m 7 1)).1 = -1
    · rw [if_neg (by omega)] at h6
      obtain ⟨g1, g2, -⟩ := hg.1 e
      have hA := hR.a e
      have hk := skp_f T L (clP T L (m 7 1)).2.1
      have hk2 := hk.2.1 g2
      rw [hw, e, hA, nsV_in, nsA_in]
      refine ⟨fun q hm => ?_, fun q hm => ?_⟩
      · rw [if_pos q] at h6
        have hlt : skp T L (clP T L (m 7 1)).2.1 < L := chr_lt T (by omega)
        have e1 : m6 7 1 = skp T L (clP T L (m 7 1)).2.1 + 1 := by rw [hm]; exact upR_1
        exact Or.inl ⟨rfl, by rw [hm]; exact upR_2, by omega, by omega, by omega, k, _, by omega, by rw [e1]; exact h6⟩
      · rw [if_neg q] at h6
        have e1 : m6 7 1 = skp T L (clP T L (m 7 1)).2.1 := by rw [hm]; exact upR_1
        exact Or.inr ⟨rfl, Or.inr ⟨by rw [hm]; exact upR_2, by rw [e1, skp_skp]; exact h6.symm⟩⟩
    · rw [if_pos e] at h6
      have ne : m5 7 2 ≠ -1 := by rw [hw]; exact e
      rw [nsV_no ne]
      refine ⟨fun q => absurd q (by decide), fun _ hm => ?_⟩
      have e1 : m6 7 2 = (clP T L (m 7 1)).1 := by rw [hm, upR_2]; exact hw
      exact Or.inr ⟨rfl, Or.inl ⟨by rw [e1]; exact e, by rw [e1]; exact h6⟩⟩
  · omega
/-- the worth's loop -/
def WRJ (T : Int → Int) (L : Int) (env : Int → Int) (lab tg i a : Int) : Prop :=
  i ≤ a ∧ ((0 ≤ a ∧ a ≤ L ∧ ∃ k : Nat, L - a < k ∧ (clsL T L k a []).1 = -1 ∧ worL T L env lab k a = tg) ∨ (a = L + 1 ∧ tg = 0))
theorem nx_to {T : Int → Int} {L : Int} : ∀ (n : Nat) (a e : Int), e - a = n → e ≤ L → (∀ i : Int, a ≤ i → i < e → T i ≠ 59) → nxC T L a = nxC T L e := by
  intro n
  induction n with
  | zero => intro a e h _ _; rw [show a = e by omega]
  | succ n ih =>
    intro a e h h1 h2
    rw [nxC_step (by omega) (h2 a (Int.le_refl a) (by omega))]
    exact ih (a + 1) e (by omega) h1 (fun i q1 q2 => h2 i (by omega) q2)
theorem wrj_in {T : Int → Int} {L : Int} {env : Int → Int} {lab tg i a : Int} (h : WRJ T L env lab tg i a) (hv : 0 ≤ chr T L (skp T L a)) (hL : 0 ≤ L) : (0 ≤ a ∧ a ≤ L) ∧ LBL (chr T L (skp T L a)) ∧ (clP T L a).1 = -1 ∧ chr T L (skp T L (skp T L a + 1)) = 58 := by
  obtain ⟨h1, ⟨h2, h3, k, h4, h5, h6⟩ | ⟨h2, h3⟩⟩ := h
  · obtain ⟨k, rfl⟩ : ∃ j, k = j + 1 := ⟨k - 1, by omega⟩
    obtain ⟨c1, c2, c3⟩ := clsL_split h2 h3 h5
    have hsk := skp_f T L a
    have hl : isLb (chr T L (skp T L a)) := by
      by_cases q : isLb (chr T L (skp T L a))
      · exact q
      · rw [clP_1 q] at c1
        have : skp T L a = -1 := c1
        omega
    refine ⟨⟨h2, h3⟩, hl, c1, ?_⟩
    by_cases q : chr T L (skp T L (skp T L a + 1)) = 58
    · exact q
    · rw [clP_2 hl q] at c1
      have : skp T L (skp T L a + 1) = -1 := c1
      have := (skp_f T L (skp T L a + 1)).1
      omega
  · rw [h2, skp_stop (by omega), chr_out (by omega)] at hv
    omega
theorem wrj_next {T : Int → Int} {L : Int} {env : Int → Int} {lab tg i a b : Int} (h : WRJ T L env lab tg i a) (hv : 0 ≤ chr T L (skp T L a)) (hL : 0 ≤ L) (hT : ∀ i : Int, 0 ≤ i → i < L → 0 ≤ T i ∧ T i ≤ 255) (hb : a ≤ b ∧ b ≤ (clP T L a).2.1) (hn : ¬ ((clP T L a).2.2.1 = lab ∧ valC env (clP T L a).2.2.2.1 ≠ 0)) : WRJ T L env lab tg (i + 1) (nxC T L b + 1) ∧ 0 ≤ nxC T L b + 1 ∧ nxC T L b + 1 ≤ L + 1 := by
  obtain ⟨-, -, hc1, -⟩ := wrj_in h hv hL
  obtain ⟨h1, ⟨h2, h3, k, h4, h5, h6⟩ | ⟨h2, h3⟩⟩ := h
  · obtain ⟨k, rfl⟩ : ∃ j, k = j + 1 := ⟨k - 1, by omega⟩
    have hg := (clP_gd T L h2 h3).1 hc1
    obtain ⟨g1, g2, -, -, -, g6, -⟩ := hg
    have hk := skp_f T L (clP T L a).2.1
    have hk2 := hk.2.1 g2
    have e1 : nxC T L b = nxC T L (skp T L (clP T L a).2.1) := by
      refine nx_to (skp T L (clP T L a).2.1 - b).toNat _ _ (by omega) hk2 (fun j q1 q2 => ?_)
      rcases Int.lt_or_le j (clP T L a).2.1 with p | p
      · exact g6 j (by omega) p
      · rw [hk.2.2.2 j p q2]; decide
    have h5' := h5
    rw [clsL_s1, if_neg (by omega)] at h5'
    rw [worL, if_neg hn] at h6
    by_cases q : chr T L (skp T L (clP T L a).2.1) = 59
    · have hlt : skp T L (clP T L a).2.1 < L := chr_lt T (by omega)
      have e2 : nxC T L (skp T L (clP T L a).2.1) = skp T L (clP T L a).2.1 := nxC_stop (fun q2 => q2.2 (by rw [← chr_in (T := T) hlt]; exact q))
      rw [e1, e2]
      rw [if_pos q] at h6
      obtain ⟨-, -, c3⟩ := clsL_split h2 h3 h5
      rcases c3 with ⟨d1, d2, d3, d4⟩ | ⟨d1, d2⟩
      · exact ⟨⟨by omega, Or.inl ⟨by omega, by omega, k, by omega, d3, h6⟩⟩, by omega, by omega⟩
      · exact absurd q d1
    · rw [if_neg q] at h5' h6
      have e3 : skp T L (clP T L a).2.1 = L := by
        by_cases q2 : chr T L (skp T L (clP T L a).2.1) = -1
        · rcases Int.lt_or_le (skp T L (clP T L a).2.1) L with p | p
          · exfalso
            rw [chr_in p] at q2
            have := hT _ (by omega) p
            omega
          · omega
        · rw [if_neg q2] at h5'; omega
      have e2 : nxC T L L = L := nxC_stop (fun q2 => by omega)
      rw [e1, e3, e2]
      exact ⟨⟨by omega, Or.inr ⟨rfl, h6.symm⟩⟩, by omega, by omega⟩
  · rw [h2, skp_stop (by omega), chr_out (by omega)] at hv
    omega
theorem wrj_end {T : Int → Int} {L : Int} {env : Int → Int} {lab tg i a : Int} (h : WRJ T L env lab tg i a) (hv : L < i ∨ chr T L (skp T L a) < 0) (hL : 0 ≤ L) : tg = 0 := by
  have h' := h
  obtain ⟨h1, ⟨h2, h3, k, h4, h5, h6⟩ | ⟨h2, h3⟩⟩ := h
  · rcases hv with hv | hv
    · omega
    · obtain ⟨k, rfl⟩ : ∃ j, k = j + 1 := ⟨k - 1, by omega⟩
      obtain ⟨c1, c2, c3⟩ := clsL_split h2 h3 h5
      have hsk := skp_f T L a
      by_cases q : isLb (chr T L (skp T L a))
      · omega
      · rw [clP_1 q] at c1
        have : skp T L a = -1 := c1
        omega
  · exact h3
theorem wrj_hit {T : Int → Int} {L : Int} {env : Int → Int} {lab tg i a : Int} (h : WRJ T L env lab tg i a) (hv : 0 ≤ chr T L (skp T L a)) (hq : (clP T L a).2.2.1 = lab ∧ valC env (clP T L a).2.2.2.1 ≠ 0) : tg = valC env (clP T L a).2.2.2.2 := by
  obtain ⟨h1, ⟨h2, h3, k, h4, h5, h6⟩ | ⟨h2, h3⟩⟩ := h
  · obtain ⟨k, rfl⟩ : ∃ j, k = j + 1 := ⟨k - 1, by omega⟩
    rw [worL, if_pos hq] at h6
    exact h6.symm
  · rw [h2, skp_stop (by omega), chr_out (by omega)] at hv
    omega
theorem fin_lab {T : Int → Int} {L lab : Int} {r : PR} (h : (finC T L lab r).1 = -1) (h0 : r.1 = -1 → 0 ≤ r.2.1 ∧ r.2.1 ≤ L) : (finC T L lab r).2.2.1 = lab ∧ r.1 = -1 ∧ r.2.1 ≤ (finC T L lab r).2.1 := by
  unfold finC at h ⊢
  split at h
  · rename_i q; exact absurd h q
  · rename_i q
    have q0 : r.1 = -1 := by omega
    have hb := h0 q0
    rw [if_neg q]
    have hk := skp_f T L r.2.1
    split at h
    · have : skp T L r.2.1 = -1 := h
      omega
    · rename_i q2
      rw [if_neg q2]
      split at h
      · rename_i q3; exact absurd h q3
      · rename_i q3
        rw [if_neg q3]
        have hlt : skp T L r.2.1 < L := chr_lt T (by omega)
        have := ((sumP_gd T L 6 (skp T L r.2.1 + 1) (by omega) (by omega)).1 (by omega)).1
        refine ⟨rfl, q0, ?_⟩
        show r.2.1 ≤ (sumP T L 6 (skp T L r.2.1 + 1)).2.1
        omega
theorem bod_lab {T : Int → Int} {L lab a : Int} (h : (bodC T L lab a).1 = -1) (h0 : 0 ≤ a) (h1 : a ≤ L) : (bodC T L lab a).2.2.1 = lab ∧ a ≤ (bodC T L lab a).2.1 := by
  have hC := condP_gd T L 6 a h0 h1
  have hS := sumP_gd T L 6 a h0 h1
  have hf : (finC T L lab (condP T L 6 a)).1 = -1 → (finC T L lab (condP T L 6 a)).2.2.1 = lab ∧ a ≤ (finC T L lab (condP T L 6 a)).2.1 := fun q => by
    have g1 := fin_lab q (fun e => by have g2 := (hC.1 e).1; have g3 := (hC.1 e).2.1; omega)
    have g2 := (hC.1 g1.2.1).1
    exact ⟨g1.1, by omega⟩
  unfold bodC at h ⊢
  split at h
  · rename_i q; rw [if_pos q]; exact hf h
  · rename_i q
    rw [if_neg q]
    split at h
    · rename_i q2; exact absurd h q2
    · rename_i q2
      rw [if_neg q2]
      split at h
      · rename_i q3; rw [if_pos q3]; exact hf h
      · rename_i q3
        rw [if_neg q3]
        have g2 := (hS.1 (by omega)).1
        have hk := (skp_f T L (sumP T L 6 a).2.1).1
        refine ⟨rfl, ?_⟩
        show a ≤ skp T L (sumP T L 6 a).2.1
        omega
theorem clP_lab {T : Int → Int} {L a : Int} (h0 : 0 ≤ a) (h1 : a ≤ L) (h : (clP T L a).1 = -1) : (clP T L a).2.2.1 = chr T L (skp T L a) ∧ a ≤ skp T L (skp T L a + 1) + 1 ∧ skp T L (skp T L a + 1) + 1 ≤ (clP T L a).2.1 := by
  have hs := skp_f T L a
  have hs2 := hs.2.1 h1
  by_cases q : isLb (chr T L (skp T L a))
  · have hlt : skp T L a < L := chr_lt T (by omega)
    have hk := skp_f T L (skp T L a + 1)
    have hk2 := hk.2.1 (by omega)
    by_cases q2 : chr T L (skp T L (skp T L a + 1)) = 58
    · have hlt2 : skp T L (skp T L a + 1) < L := chr_lt T (by omega)
      have hj := skp_f T L (skp T L (skp T L a + 1) + 1)
      have hj2 := hj.2.1 (by omega)
      rw [clP_3 q q2] at h ⊢
      have g := bod_lab h (by omega) hj2
      exact ⟨g.1, by omega, by omega⟩
    · rw [clP_2 q q2] at h
      have : skp T L (skp T L a + 1) = -1 := h
      omega
  · rw [clP_1 q] at h
    have : skp T L a = -1 := h
    omega
theorem acc_fr {m m' : Int → Int → Int} {P Q : Prop} {hP : Decidable P} {a w a' w' b j : Int} (h : Q ∧ m' = (if P then upR m a w else upR m a' w')) (hb : b ≠ 7) : m' b j = m b j := by
  rw [h.2]
  by_cases q : P
  · rw [if_pos q]; exact upR_o (by omega)
  · rw [if_neg q]; exact upR_o (by omega)
theorem dem_o {m m' : Int → Int → Int} {P : Prop} {hP : Decidable P} {a w a' w' b j : Int} (h : m' = (if P then upR m a w else upR m a' w')) (hb : ¬ (b = 7 ∧ (j = 1 ∨ j = 2))) : m' b j = m b j := by
  rw [h]
  by_cases q : P
  · rw [if_pos q]; exact upR_o hb
  · rw [if_neg q]; exact upR_o hb
theorem lab_at {m m1 m3 : Int → Int → Int} {T : Int → Int} {L v0 : Int} (hq : v0 = nsV T L (m 7 1) (m 7 2) ∧ m1 = upR m (nsA T L (m 7 1) (m 7 2)) (m 7 2)) (hw : m 7 2 = -1) (ha : 0 ≤ m 7 1 ∧ m 7 1 ≤ L) (h : (LBL v0 ∧ m3 = set2 m1 7 1 (m1 7 1 + 1)) ∨ (¬ LBL v0 ∧ ∃ m2, m2 = upR m1 (m1 7 1) (rfW L (m1 7 1) (m1 7 2)) ∧ m3 = set2 m2 7 1 (m2 7 1 + 1))) : (LBL (chr T L (skp T L (m 7 1))) ∧ m3 = upR m (skp T L (m 7 1) + 1) (-1)) ∨ (¬ LBL (chr T L (skp T L (m 7 1))) ∧ m3 = upR m (skp T L (m 7 1) + 1) (skp T L (m 7 1))) := by
  obtain ⟨a1, a2, a3, a4⟩ := look_ok hq hw
  have hsk := skp_f T L (m 7 1)
  have hs2 := hsk.2.1 ha.2
  rcases h with ⟨h, h3⟩ | ⟨h, m2, h2, h3⟩
  · left
    rw [a3, a2, upR_s1] at h3
    exact ⟨by rw [← a1]; exact h, h3⟩
  · right
    rw [a3, a4, rfW_in hs2, a2, upR_up] at h2
    have e : m2 7 1 = skp T L (m 7 1) := by rw [h2]; exact upR_1
    rw [e, h2, upR_s1] at h3
    exact ⟨by rw [← a1]; exact h, h3⟩
theorem lab_st {kd : Int → Nat} {ln : Int → Int} {t r : Int} {T : Int → Int} {L : Int} {m m3 : Int → Int → Int} (h : STT kd ln t r T L m) (ha : 0 ≤ m 7 1 ∧ m 7 1 ≤ L) (h3 : (LBL (chr T L (skp T L (m 7 1))) ∧ m3 = upR m (skp T L (m 7 1) + 1) (-1)) ∨ (¬ LBL (chr T L (skp T L (m 7 1))) ∧ m3 = upR m (skp T L (m 7 1) + 1) (skp T L (m 7 1)))) : STT kd ln t r T L m3 := by
  have hsk := skp_f T L (m 7 1)
  have hs2 := hsk.2.1 ha.2
  have hL := h.L
  rcases h3 with ⟨h1, h3⟩ | ⟨h1, h3⟩
  · have h1 : isLb (chr T L (skp T L (m 7 1))) := h1
    have hlt : skp T L (m 7 1) < L := chr_lt T (by omega)
    rw [h3]
    exact h.up (fun _ => by omega) ⟨by decide, by decide⟩
  · rw [h3]
    exact h.up (fun q => by omega) ⟨by omega, by omega⟩
theorem lab_o {m m3 : Int → Int → Int} {P Q : Prop} {a a' w w' b j : Int} (h3 : (P ∧ m3 = upR m a w) ∨ (Q ∧ m3 = upR m a' w')) (hb : ¬ (b = 7 ∧ (j = 1 ∨ j = 2))) : m3 b j = m b j := by
  rcases h3 with ⟨-, h3⟩ | ⟨-, h3⟩ <;> (rw [h3]; exact upR_o hb)
theorem flj_end {T : Int → Int} {L i v0 : Int} {m m1 : Int → Int → Int} (h : FLJ T L m 0 i) (ha : m 7 2 = -1 → 0 ≤ m 7 1 ∧ m 7 1 ≤ L) (hq : v0 = nsV T L (m 7 1) (m 7 2) ∧ m1 = upR m (nsA T L (m 7 1) (m 7 2)) (m 7 2)) : (v0 = -1 → m1 7 2 = (fauP T L).1) ∧ (v0 ≠ -1 → upR m1 (m1 7 1) (rfW L (m1 7 1) (m1 7 2)) 7 2 = (fauP T L).1) := by
  rcases h with ⟨h, -⟩ | ⟨-, ⟨h1, h2⟩ | ⟨h1, h2⟩⟩
  · omega
  · obtain ⟨a1, rfl⟩ := look_no hq h1
    refine ⟨fun q => by omega, fun _ => ?_⟩
    rw [upR_2, rfW_no h1]
    exact h2
  · obtain ⟨a1, a2, a3, a4⟩ := look_ok hq h1
    have hb := ha h1
    have hsk := skp_f T L (m 7 1)
    have hs2 := hsk.2.1 hb.2
    refine ⟨fun q => ?_, fun q => ?_⟩
    · rw [a4, h2, if_pos (by omega)]
    · rw [upR_2, a3, a4, rfW_in hs2, h2, if_neg (by omega)]
theorem opR_eb {mem : Int → Int → Int} {x : Int} (h : EB mem) : EB (opR mem x) := by
  have e : ∀ j : Int, j ≠ 0 → j ≠ 1 → j ≠ 2 → j ≠ 6 → opR mem x 7 j = mem 7 j := fun j h0 h1 h2 h6 => by
    unfold opR
    rw [s2_k h6, s2_k h2, s2_k h1, s2_k h0]
  show (_ ≤ opR mem x 7 3 ∧ _) ∧ (_ ≤ opR mem x 7 4 ∧ _) ∧ (_ ≤ opR mem x 7 5 ∧ _)
  rw [e 3 (by decide) (by decide) (by decide) (by decide), e 4 (by decide) (by decide) (by decide) (by decide), e 5 (by decide) (by decide) (by decide) (by decide)]
  exact h
theorem opR_f {mem : Int → Int → Int} {x : Int} : opR mem x 7 0 = x ∧ opR mem x 7 1 = 0 ∧ opR mem x 7 2 = -1 := by
  unfold opR
  refine ⟨?_, ?_, ?_⟩
  · rw [s2_k (by decide), s2_k (by decide), s2_k (by decide)]; exact s2_s
  · rw [s2_k (by decide), s2_k (by decide)]; exact s2_s
  · rw [s2_k (by decide)]; exact s2_s
set_option maxHeartbeats 4000000 in
set_option maxRecDepth 100000 in
theorem c_X5_faultIn {l : Launch} {g : GP} (hG : GH g) {kd : Int → Nat} {ln : Int → Int} {mem : Int → Int → Int} {sz : Nat} (t : Int) (hk7 : kd 7 = 7) (r : Int) (T : Int → Int) (L : Int) (hTX : TXT kd ln mem t r T L) (hEB : EB mem) : MT l g yX5_faultIn cX5_faultIn 4 (some .int) (27) 0 0 [(2, 7), (2, t)] kd ln mem sz (pMR 0 (fun v mem' => (v = (fauP T L).1 ∧ (∀ b j : Int, b ≠ 7 → mem' b j = mem b j) ∧ EB mem')) kd ln sz) := by
  refine MT_of hG (by decide +kernel) (Nat.le_of_ble_eq_true rfl) (fun z hF hr hn => ?_)
  refine jblk hF [(.aload_n 0, 1), (.aload_n 1, 1)] (by decide +kernel) (pc' := 2) (lo' := [(0, (2, 7)), (1, (2, t))]) (st' := [(2, t), (2, 7)]) rfl ?_
  refine jcallV hF (c_X5_open hG t (by assumption)) MW_X5_open 6 (by decide) (by first | assumption | omega) wd_166 wd_168 wd_p0 (by decide +kernel) [] rfl rfl (rmI (by omega) (by decide)) (Nat.le_of_ble_eq_true rfl) ⟨Nat.le_of_ble_eq_true rfl, Nat.le_of_ble_eq_true rfl⟩ (kMV (fun m_1 h_2 => ?_))
  have hO : m_1 = opR mem t := h_2
  have hST1 : STT kd ln t r T L m_1 := by rw [hO]; exact opR_st hTX hk7 (opR_eb hEB) opR_f.1 opR_f.2.1 opR_f.2.2 (fun b j hb => opR_o hb)
  have hLb := hST1.L
  have hI : FLJ T L m_1 1 0 := by
    have e1 : m_1 7 1 = 0 := by rw [hO]; exact opR_f.2.1
    refine Or.inl ⟨rfl, by rw [hO]; exact opR_f.2.2, by omega, by omega, by omega, 200, [], by omega, ?_⟩
    rw [e1]; rfl
  refine jblk hF [(.iconst 1, 1), (.istore_n 2, 1), (.iconst 0, 1), (.istore_n 3, 1)] (by decide +kernel) (pc' := 9) (lo' := [(3, (0, 0)), (2, (0, 1)), (0, (2, 7)), (1, (2, t))]) (st' := []) rfl ?_
  have L_4 : ∀ (fu_5 : Nat) (G : Int) (i : Int) (m : Int → Int → Int), (STT kd ln t r T L m) → (∀ b j : Int, b ≠ 7 → m b j = mem b j) → (FLJ T L m G i) → (0 ≤ i) →  (L + 2 - i).toNat < fu_5 → J z g 4 0 0 (QM z g 0 0 (pMR 0 (fun v mem' => (v = (fauP T L).1 ∧ (∀ b j : Int, b ≠ 7 → mem' b j = mem b j) ∧ EB mem')) kd ln sz)) 9 [(0, (2, 7)), (1, (2, t)), (2, (0, G)), (3, (0, i))] [] kd ln m sz := by
    intro fu_5
    induction fu_5 with
    | zero => intro G i m _ _ _ _ hm; omega
    | succ fu_5 ih_3 =>
      intro G i m hst hfr hfl hi hm
      have hRDm := hst.1
      have ⟨n1, n2, n3, n4, n5, n6, n7, n8, n9, n10, n11, n12, n13⟩ := hRDm
      have kt2 : kd (m 7 0) = 12 := by rw [n2]; exact n3
      have kr2 : kd (m (m 7 0) 0) = 20 := by rw [n2, n5]; exact n7
      have kL2 : m (m 7 0) 1 = L := by rw [n2]; exact n6
      have kT2 : m (m (m 7 0) 0) = T := by rw [n2, n5]; exact n9
      have kn2 : ln (m (m 7 0) 0) = ln r := by rw [n2, n5]
      have kg2 : 3 ≤ m 7 0 ∧ 3 ≤ m (m 7 0) 0 := by rw [n2, n5]; omega
      have hax := hst.2.2.1
      have ham : m 7 2 = -1 → 0 ≤ m 7 1 ∧ m 7 1 ≤ L + 1 := fun q => by have := hax q; omega
      have hwm := hst.2.2.2
      have hgg : G = 1 ∨ G = 0 := by rcases hfl with q | q <;> omega
      refine jblk hF [(.iload_n 2, 1)] (by decide +kernel) (pc' := 10) (lo' := [(0, (2, 7)), (1, (2, t)), (2, (0, G)), (3, (0, i))]) (st' := [(0, G)]) rfl ?_
      refine jif_eq hF (off := 62) 72 (by decide +kernel) (by decide) (by omega) (fun h_6 => ?_) (fun h_6 => ?_)
      · have hG0 : G = 0 := by omega
        have hf0 : FLJ T L m 0 i := by rw [← hG0]; exact hfl
        refine jblk hF [(.aload_n 0, 1)] (by decide +kernel) (pc' := 73) (lo' := [(0, (2, 7)), (1, (2, t)), (2, (0, G)), (3, (0, i))]) (st' := [(2, 7)]) rfl ?_
        refine jcallV hF (c_X5_nextSign hG (by exact t) (by exact r) (by exact T) (by exact L) (by assumption) (by omega) (by omega)) MW_X5_nextSign 6 (by decide) (by first | assumption | omega) wd_580 wd_582 wd_p6 (by decide +kernel) [] rfl rfl (rmI (by omega) (by decide)) (Nat.le_of_ble_eq_true rfl) ⟨Nat.le_of_ble_eq_true rfl, Nat.le_of_ble_eq_true rfl⟩ (kMR (fun v_9 m_7 h_8 => ?_))
        have hq := h_8
        have hST7 := nS_st hst hq.2
        have hvb : -2 ≤ v_9 ∧ v_9 ≤ 255 := by rw [hq.1]; exact nsV_bd hst.1 ham
        have hend := flj_end hf0 hax hq
        have hRDx7 := hST7.1
        have hax7 := hST7.2.2.1
        have hwx7 := hST7.2.2.2
        have hfr7 : ∀ b j : Int, b ≠ 7 → m_7 b j = mem b j := fun b j hb => by rw [hq.2, upR_o (by omega)]; exact hfr b j hb
        refine jblk hF [(.iconst (-1), 1)] (by decide +kernel) (pc' := 77) (lo' := [(0, (2, 7)), (1, (2, t)), (2, (0, G)), (3, (0, i))]) (st' := [(0, (-1)), (0, v_9)]) rfl ?_
        refine jicmp_eq hF (off := 7) 84 (by decide +kernel) (by decide) (by omega) (by decide) (fun h_10 => ?_) (fun h_10 => ?_)
        · refine jblk hF [(.aload_n 0, 1)] (by decide +kernel) (pc' := 85) (lo' := [(0, (2, 7)), (1, (2, t)), (2, (0, G)), (3, (0, i))]) (st' := [(2, 7)]) rfl ?_
          refine jget hF 6 2 0 2 rfl (by decide) (by decide) rfl wd_172 (by decide +kernel) (by first | assumption | omega) ?_
          refine jiret hF hr (by decide +kernel) ?_
          exact lMR (by first | exact ⟨hend.1 (by omega), hfr7, hST7.2.1⟩ | exact ⟨by rw [hrf]; exact hend.2 (by omega), fun b j hb => by rw [hrf, upR_o (by omega)]; exact hfr7 b j hb, by rw [hrf]; exact hST7.2.1.up⟩)
        · refine jblk hF [(.aload_n 0, 1)] (by decide +kernel) (pc' := 81) (lo' := [(0, (2, 7)), (1, (2, t)), (2, (0, G)), (3, (0, i))]) (st' := [(2, 7)]) rfl ?_
          refine jcallV hF (c_X5_refuse hG (by exact t) (by exact r) (by exact T) (by exact L) (by assumption) (by omega) (by omega)) MW_X5_refuse 6 (by decide) (by first | assumption | omega) wd_587 wd_589 wd_p7 (by decide +kernel) [] rfl rfl (rmI (by omega) (by decide)) (Nat.le_of_ble_eq_true rfl) ⟨Nat.le_of_ble_eq_true rfl, Nat.le_of_ble_eq_true rfl⟩ (kMV (fun m_11 h_12 => ?_))
          have hrf := h_12
          refine jblk hF [(.aload_n 0, 1)] (by decide +kernel) (pc' := 85) (lo' := [(0, (2, 7)), (1, (2, t)), (2, (0, G)), (3, (0, i))]) (st' := [(2, 7)]) rfl ?_
          refine jget hF 6 2 0 2 rfl (by decide) (by decide) rfl wd_172 (by decide +kernel) (by first | assumption | omega) ?_
          refine jiret hF hr (by decide +kernel) ?_
          exact lMR (by first | exact ⟨hend.1 (by omega), hfr7, hST7.2.1⟩ | exact ⟨by rw [hrf]; exact hend.2 (by omega), fun b j hb => by rw [hrf, upR_o (by omega)]; exact hfr7 b j hb, by rw [hrf]; exact hST7.2.1.up⟩)
      · have hG1 : G = 1 := by omega
        have hf1 : FLJ T L m 1 i := by rw [← hG1]; exact hfl
        have hf2 : m 7 2 = -1 ∧ i ≤ m 7 1 ∧ 0 ≤ m 7 1 ∧ m 7 1 ≤ L := by
          rcases hf1 with ⟨-, a1, a2, a3, a4, -⟩ | ⟨a1, -⟩
          · exact ⟨a1, a2, a3, a4⟩
          · omega
        refine jblk hF [(.iload_n 3, 1), (.aload_n 0, 1)] (by decide +kernel) (pc' := 15) (lo' := [(0, (2, 7)), (1, (2, t)), (2, (0, G)), (3, (0, i))]) (st' := [(2, 7), (0, i)]) rfl ?_
        refine jget hF 6 0 2 0 rfl (by decide) (by decide) rfl wd_170 (by decide +kernel) (by first | assumption | omega) ?_
        refine jget hF 11 1 0 1 rfl (by decide) (by decide) rfl wd_150 (by decide +kernel) (by first | assumption | omega) ?_
        refine jicmp_gt hF (off := 51) 72 (by decide +kernel) (by decide) (by omega) (by omega) (fun h_13 => ?_) (fun h_13 => ?_)
        · exfalso; omega
        · refine jblk hF [(.aload_n 0, 1)] (by decide +kernel) (pc' := 25) (lo' := [(0, (2, 7)), (1, (2, t)), (2, (0, G)), (3, (0, i))]) (st' := [(2, 7)]) rfl ?_
          refine jcallV hF (c_X5_nextSign hG (by exact t) (by exact r) (by exact T) (by exact L) (by assumption) (by omega) (by omega)) MW_X5_nextSign 6 (by decide) (by first | assumption | omega) wd_580 wd_582 wd_p6 (by decide +kernel) [] rfl rfl (rmI (by omega) (by decide)) (Nat.le_of_ble_eq_true rfl) ⟨Nat.le_of_ble_eq_true rfl, Nat.le_of_ble_eq_true rfl⟩ (kMR (fun v_16 m_14 h_15 => ?_))
          have hq := h_15
          have lk := look_ok hq hf2.1
          have hST2 := nS_st hst hq.2
          have hvb : -2 ≤ v_16 ∧ v_16 ≤ 255 := by rw [hq.1]; exact nsV_bd hst.1 (fun q => by omega)
          have hRDx2 := hST2.1
          have hax2 := hST2.2.2.1
          have hwx2 := hST2.2.2.2
          refine jcallSN hF (c_X11_isLabelO hG v_16 (by omega)) MW_X11_isLabel wd_584 wd_585 (by decide +kernel) [] rfl rfl (rmI (by omega) (by decide)) (Nat.le_of_ble_eq_true rfl) ⟨Nat.le_of_ble_eq_true rfl, Nat.le_of_ble_eq_true rfl⟩ (kB (fun h_17 => ?_) (fun h_17 => ?_))
          · refine jif_ne hF (off := 7) 38 (by decide +kernel) (by decide) (by decide) (fun _ => ?_) (fun h => absurd h (by decide))
            refine jblk hF [(.aload_n 0, 1), (.dup, 1)] (by decide +kernel) (pc' := 40) (lo' := [(0, (2, 7)), (1, (2, t)), (2, (0, G)), (3, (0, i))]) (st' := [(2, 7), (2, 7)]) rfl ?_
            refine jget hF 6 1 0 1 rfl (by decide) (by decide) rfl wd_171 (by decide +kernel) (by first | assumption | omega) ?_
            refine jblk hF [(.iconst 1, 1), (.iadd, 1)] (by decide +kernel) (pc' := 45) (lo' := [(0, (2, 7)), (1, (2, t)), (2, (0, G)), (3, (0, i))]) (st' := [(0, (m_14 7 1) + 1), (2, 7)]) rfl ?_
            refine jput hF 6 1 0 1 rfl (by decide) (by decide) rfl wd_171 (by decide +kernel) rfl (Or.inl rfl) (by first | assumption | omega) (fun h => by cases h) ?_
            have h3 := lab_at hq hf2.1 ⟨hf2.2.2.1, hf2.2.2.2⟩ (m3 := (set2 m_14 7 1 ((m_14 7 1) + 1))) (by first | exact Or.inl ⟨by assumption, rfl⟩ | exact Or.inr ⟨by assumption, _, hrf, rfl⟩)
            have hST3 := lab_st hst ⟨hf2.2.2.1, hf2.2.2.2⟩ h3
            have hRDx3 := hST3.1
            have hax3 : (set2 m_14 7 1 ((m_14 7 1) + 1)) 7 2 = -1 → 0 ≤ (set2 m_14 7 1 ((m_14 7 1) + 1)) 7 1 ∧ (set2 m_14 7 1 ((m_14 7 1) + 1)) 7 1 ≤ L + 1 := fun q => by have := hST3.2.2.1 q; omega
            have hwx3 := hST3.2.2.2
            refine jblk hF [(.aload_n 0, 1), (.bipush 58, 2)] (by decide +kernel) (pc' := 51) (lo' := [(0, (2, 7)), (1, (2, t)), (2, (0, G)), (3, (0, i))]) (st' := [(0, 58), (2, 7)]) rfl ?_
            refine jcallV hF (c_X5_demand hG 58 (by exact t) (by exact r) (by exact T) (by exact L) (by assumption) (by omega) (by omega) (by decide)) MW_X5_demand 6 (by decide) (by first | assumption | omega) wd_591 wd_593 wd_p8 (by decide +kernel) [] rfl rfl (rmI (by omega) (by decide)) (Nat.le_of_ble_eq_true rfl) ⟨Nat.le_of_ble_eq_true rfl, Nat.le_of_ble_eq_true rfl⟩ (kMV (fun m_19 h_20 => ?_))
            have hd := h_20
            have hST4 := dem_st hST3 (fun q => by omega) (fun q => hd.trans (if_pos q)) (fun q => hd.trans (if_neg q))
            refine jblk hF [(.aload_n 0, 1)] (by decide +kernel) (pc' := 55) (lo' := [(0, (2, 7)), (1, (2, t)), (2, (0, G)), (3, (0, i))]) (st' := [(2, 7)]) rfl ?_
            refine jcallV hF (c_X5_readsClause hG (by exact t) (by exact r) (by exact T) (by exact L) (by exact hST4.1) (by exact hST4.2.1) (by exact hST4.2.2.1) (by exact hST4.2.2.2) (by exact chr T L (skp T L (m 7 1)))) MW_X5_readsClause 6 (by decide) (by first | assumption | omega) wd_595 wd_597 wd_p9 (by decide +kernel) [] rfl rfl (rmI (by omega) (by decide)) (Nat.le_of_ble_eq_true rfl) ⟨Nat.le_of_ble_eq_true rfl, Nat.le_of_ble_eq_true rfl⟩ (kMR (fun v_23 m_21 h_22 => ?_))
            have hRC := h_22
            have hR := cl_read ⟨hf2.2.2.1, hf2.2.2.2⟩ h3 hd hRC.2.1
            have hST5 := hRC.2.2
            have hRDx5 := hST5.1
            have hax5 : m_21 7 2 = -1 → 0 ≤ m_21 7 1 ∧ m_21 7 1 ≤ L + 1 := fun q => by have := hST5.2.2.1 q; omega
            have hwx5 := hST5.2.2.2
            refine jblk hF [(.pop, 1), (.aload_n 0, 1), (.bipush 59, 2)] (by decide +kernel) (pc' := 62) (lo' := [(0, (2, 7)), (1, (2, t)), (2, (0, G)), (3, (0, i))]) (st' := [(0, 59), (2, 7)]) rfl ?_
            refine jcallV hF (c_X5_accepts hG 59 (by exact t) (by exact r) (by exact T) (by exact L) (by assumption) (by omega) (by omega) (by decide)) MW_X5_accepts 6 (by decide) (by first | assumption | omega) wd_622 wd_624 wd_p14 (by decide +kernel) [] rfl rfl (rmI (by omega) (by decide)) (Nat.le_of_ble_eq_true rfl) ⟨Nat.le_of_ble_eq_true rfl, Nat.le_of_ble_eq_true rfl⟩ (kMB (fun m_24 h_25 => ?_) (fun m_24 h_25 => ?_))
            · have h_25_ := h_25
              have hA := h_25
              have hfr6 : ∀ b j : Int, b ≠ 7 → m_24 b j = mem b j := fun b j hb => by rw [acc_fr hA hb, hR.o (Or.inl hb)]; exact hfr b j hb
              refine jblk hF [(.istore_n 2, 1), (.iinc 3 1, 3)] (by decide +kernel) (pc' := 69) (lo' := [(3, (0, i + 1)), (2, (0, 1)), (0, (2, 7)), (1, (2, t))]) (st' := []) rfl ?_
              refine jgoto hF (off := (-60)) 9 (by decide +kernel) (by decide) ?_
              refine jsub [2, 3, 1, 0] rfl ?_
              refine ih_3 1 (i + 1) m_24 ?_ ?_ ?_ ?_ ?_
              · first | exact met_st hST5 (by have := hA.1.mp trivial; omega) (hA.2.trans (if_pos (hA.1.mp trivial))) | exact nS_st hST5 (hA.2.trans (if_neg (fun q => hA.1.mpr q)))
              · exact hfr6
              · first | exact (flj_step hf1 hR).1 (hA.1.mp trivial) (hA.2.trans (if_pos (hA.1.mp trivial))) | exact (flj_step hf1 hR).2 (fun q => hA.1.mpr q) (hA.2.trans (if_neg (fun q => hA.1.mpr q)))
              · omega
              · omega
            · have h_25_ := h_25
              have hA := h_25
              have hfr6 : ∀ b j : Int, b ≠ 7 → m_24 b j = mem b j := fun b j hb => by rw [acc_fr hA hb, hR.o (Or.inl hb)]; exact hfr b j hb
              refine jblk hF [(.istore_n 2, 1), (.iinc 3 1, 3)] (by decide +kernel) (pc' := 69) (lo' := [(3, (0, i + 1)), (2, (0, 0)), (0, (2, 7)), (1, (2, t))]) (st' := []) rfl ?_
              refine jgoto hF (off := (-60)) 9 (by decide +kernel) (by decide) ?_
              refine jsub [2, 3, 1, 0] rfl ?_
              refine ih_3 0 (i + 1) m_24 ?_ ?_ ?_ ?_ ?_
              · first | exact met_st hST5 (by have := hA.1.mp trivial; omega) (hA.2.trans (if_pos (hA.1.mp trivial))) | exact nS_st hST5 (hA.2.trans (if_neg (fun q => hA.1.mpr q)))
              · exact hfr6
              · first | exact (flj_step hf1 hR).1 (hA.1.mp trivial) (hA.2.trans (if_pos (hA.1.mp trivial))) | exact (flj_step hf1 hR).2 (fun q => hA.1.mpr q) (hA.2.trans (if_neg (fun q => hA.1.mpr q)))
              · omega
              · omega
          · refine jif_ne hF (off := 7) 38 (by decide +kernel) (by decide) (by decide) (fun h => absurd h (by decide)) (fun _ => ?_)
            refine jblk hF [(.aload_n 0, 1)] (by decide +kernel) (pc' := 35) (lo' := [(0, (2, 7)), (1, (2, t)), (2, (0, G)), (3, (0, i))]) (st' := [(2, 7)]) rfl ?_
            refine jcallV hF (c_X5_refuse hG (by exact t) (by exact r) (by exact T) (by exact L) (by assumption) (by omega) (by omega)) MW_X5_refuse 6 (by decide) (by first | assumption | omega) wd_587 wd_589 wd_p7 (by decide +kernel) [] rfl rfl (rmI (by omega) (by decide)) (Nat.le_of_ble_eq_true rfl) ⟨Nat.le_of_ble_eq_true rfl, Nat.le_of_ble_eq_true rfl⟩ (kMV (fun m_27 h_28 => ?_))
            have hrf := h_28
            refine jblk hF [(.aload_n 0, 1), (.dup, 1)] (by decide +kernel) (pc' := 40) (lo' := [(0, (2, 7)), (1, (2, t)), (2, (0, G)), (3, (0, i))]) (st' := [(2, 7), (2, 7)]) rfl ?_
            refine jget hF 6 1 0 1 rfl (by decide) (by decide) rfl wd_171 (by decide +kernel) (by first | assumption | omega) ?_
            refine jblk hF [(.iconst 1, 1), (.iadd, 1)] (by decide +kernel) (pc' := 45) (lo' := [(0, (2, 7)), (1, (2, t)), (2, (0, G)), (3, (0, i))]) (st' := [(0, (m_27 7 1) + 1), (2, 7)]) rfl ?_
            refine jput hF 6 1 0 1 rfl (by decide) (by decide) rfl wd_171 (by decide +kernel) rfl (Or.inl rfl) (by first | assumption | omega) (fun h => by cases h) ?_
            have h3 := lab_at hq hf2.1 ⟨hf2.2.2.1, hf2.2.2.2⟩ (m3 := (set2 m_27 7 1 ((m_27 7 1) + 1))) (by first | exact Or.inl ⟨by assumption, rfl⟩ | exact Or.inr ⟨by assumption, _, hrf, rfl⟩)
            have hST3 := lab_st hst ⟨hf2.2.2.1, hf2.2.2.2⟩ h3
            have hRDx3 := hST3.1
            have hax3 : (set2 m_27 7 1 ((m_27 7 1) + 1)) 7 2 = -1 → 0 ≤ (set2 m_27 7 1 ((m_27 7 1) + 1)) 7 1 ∧ (set2 m_27 7 1 ((m_27 7 1) + 1)) 7 1 ≤ L + 1 := fun q => by have := hST3.2.2.1 q; omega
            have hwx3 := hST3.2.2.2
            refine jblk hF [(.aload_n 0, 1), (.bipush 58, 2)] (by decide +kernel) (pc' := 51) (lo' := [(0, (2, 7)), (1, (2, t)), (2, (0, G)), (3, (0, i))]) (st' := [(0, 58), (2, 7)]) rfl ?_
            refine jcallV hF (c_X5_demand hG 58 (by exact t) (by exact r) (by exact T) (by exact L) (by assumption) (by omega) (by omega) (by decide)) MW_X5_demand 6 (by decide) (by first | assumption | omega) wd_591 wd_593 wd_p8 (by decide +kernel) [] rfl rfl (rmI (by omega) (by decide)) (Nat.le_of_ble_eq_true rfl) ⟨Nat.le_of_ble_eq_true rfl, Nat.le_of_ble_eq_true rfl⟩ (kMV (fun m_29 h_30 => ?_))
            have hd := h_30
            have hST4 := dem_st hST3 (fun q => by omega) (fun q => hd.trans (if_pos q)) (fun q => hd.trans (if_neg q))
            refine jblk hF [(.aload_n 0, 1)] (by decide +kernel) (pc' := 55) (lo' := [(0, (2, 7)), (1, (2, t)), (2, (0, G)), (3, (0, i))]) (st' := [(2, 7)]) rfl ?_
            refine jcallV hF (c_X5_readsClause hG (by exact t) (by exact r) (by exact T) (by exact L) (by exact hST4.1) (by exact hST4.2.1) (by exact hST4.2.2.1) (by exact hST4.2.2.2) (by exact chr T L (skp T L (m 7 1)))) MW_X5_readsClause 6 (by decide) (by first | assumption | omega) wd_595 wd_597 wd_p9 (by decide +kernel) [] rfl rfl (rmI (by omega) (by decide)) (Nat.le_of_ble_eq_true rfl) ⟨Nat.le_of_ble_eq_true rfl, Nat.le_of_ble_eq_true rfl⟩ (kMR (fun v_33 m_31 h_32 => ?_))
            have hRC := h_32
            have hR := cl_read ⟨hf2.2.2.1, hf2.2.2.2⟩ h3 hd hRC.2.1
            have hST5 := hRC.2.2
            have hRDx5 := hST5.1
            have hax5 : m_31 7 2 = -1 → 0 ≤ m_31 7 1 ∧ m_31 7 1 ≤ L + 1 := fun q => by have := hST5.2.2.1 q; omega
            have hwx5 := hST5.2.2.2
            refine jblk hF [(.pop, 1), (.aload_n 0, 1), (.bipush 59, 2)] (by decide +kernel) (pc' := 62) (lo' := [(0, (2, 7)), (1, (2, t)), (2, (0, G)), (3, (0, i))]) (st' := [(0, 59), (2, 7)]) rfl ?_
            refine jcallV hF (c_X5_accepts hG 59 (by exact t) (by exact r) (by exact T) (by exact L) (by assumption) (by omega) (by omega) (by decide)) MW_X5_accepts 6 (by decide) (by first | assumption | omega) wd_622 wd_624 wd_p14 (by decide +kernel) [] rfl rfl (rmI (by omega) (by decide)) (Nat.le_of_ble_eq_true rfl) ⟨Nat.le_of_ble_eq_true rfl, Nat.le_of_ble_eq_true rfl⟩ (kMB (fun m_34 h_35 => ?_) (fun m_34 h_35 => ?_))
            · have h_35_ := h_35
              have hA := h_35
              have hfr6 : ∀ b j : Int, b ≠ 7 → m_34 b j = mem b j := fun b j hb => by rw [acc_fr hA hb, hR.o (Or.inl hb)]; exact hfr b j hb
              refine jblk hF [(.istore_n 2, 1), (.iinc 3 1, 3)] (by decide +kernel) (pc' := 69) (lo' := [(3, (0, i + 1)), (2, (0, 1)), (0, (2, 7)), (1, (2, t))]) (st' := []) rfl ?_
              refine jgoto hF (off := (-60)) 9 (by decide +kernel) (by decide) ?_
              refine jsub [2, 3, 1, 0] rfl ?_
              refine ih_3 1 (i + 1) m_34 ?_ ?_ ?_ ?_ ?_
              · first | exact met_st hST5 (by have := hA.1.mp trivial; omega) (hA.2.trans (if_pos (hA.1.mp trivial))) | exact nS_st hST5 (hA.2.trans (if_neg (fun q => hA.1.mpr q)))
              · exact hfr6
              · first | exact (flj_step hf1 hR).1 (hA.1.mp trivial) (hA.2.trans (if_pos (hA.1.mp trivial))) | exact (flj_step hf1 hR).2 (fun q => hA.1.mpr q) (hA.2.trans (if_neg (fun q => hA.1.mpr q)))
              · omega
              · omega
            · have h_35_ := h_35
              have hA := h_35
              have hfr6 : ∀ b j : Int, b ≠ 7 → m_34 b j = mem b j := fun b j hb => by rw [acc_fr hA hb, hR.o (Or.inl hb)]; exact hfr b j hb
              refine jblk hF [(.istore_n 2, 1), (.iinc 3 1, 3)] (by decide +kernel) (pc' := 69) (lo' := [(3, (0, i + 1)), (2, (0, 0)), (0, (2, 7)), (1, (2, t))]) (st' := []) rfl ?_
              refine jgoto hF (off := (-60)) 9 (by decide +kernel) (by decide) ?_
              refine jsub [2, 3, 1, 0] rfl ?_
              refine ih_3 0 (i + 1) m_34 ?_ ?_ ?_ ?_ ?_
              · first | exact met_st hST5 (by have := hA.1.mp trivial; omega) (hA.2.trans (if_pos (hA.1.mp trivial))) | exact nS_st hST5 (hA.2.trans (if_neg (fun q => hA.1.mpr q)))
              · exact hfr6
              · first | exact (flj_step hf1 hR).1 (hA.1.mp trivial) (hA.2.trans (if_pos (hA.1.mp trivial))) | exact (flj_step hf1 hR).2 (fun q => hA.1.mpr q) (hA.2.trans (if_neg (fun q => hA.1.mpr q)))
              · omega
              · omega
  refine jsub [2, 3, 1, 0] rfl ?_
  refine L_4 _ 1 0 m_1 ?_ ?_ ?_ ?_ (Nat.lt_succ_self _)
  · exact hST1
  · (intro b j hb; rw [hO]; exact opR_o hb)
  · exact hI
  · omega
set_option maxHeartbeats 4000000 in
set_option maxRecDepth 100000 in
theorem c_X5_worthOf {l : Launch} {g : GP} (hG : GH g) {kd : Int → Nat} {ln : Int → Int} {mem : Int → Int → Int} {sz : Nat} (t lab n b x : Int) (hk7 : kd 7 = 7) (r : Int) (T : Int → Int) (L : Int) (hTX : TXT kd ln mem t r T L) (hEB : EB mem) (hfa : (fauP T L).1 = -1) (h_lab : InI lab) (h_n : InI n) (h_b : InI b) (h_x : InI x) : MT l g yX5_worthOf cX5_worthOf 8 (some .int) (27) 0 0 [(2, 7), (2, t), (0, lab), (0, n), (0, b), (0, x)] kd ln mem sz (pMR 0 (fun v mem' => (v = (worV T L (envF n b x) lab) ∧ (∀ b j : Int, b ≠ 7 → mem' b j = mem b j) ∧ EB mem')) kd ln sz) := by
  refine MT_of hG (by decide +kernel) (Nat.le_of_ble_eq_true rfl) (fun z hF hr hn => ?_)
  refine jblk hF [(.aload_n 0, 1), (.aload_n 1, 1)] (by decide +kernel) (pc' := 2) (lo' := [(0, (2, 7)), (1, (2, t)), (2, (0, lab)), (3, (0, n)), (4, (0, b)), (5, (0, x))]) (st' := [(2, t), (2, 7)]) rfl ?_
  refine jcallV hF (c_X5_open hG t (by assumption)) MW_X5_open 6 (by decide) (by first | assumption | omega) wd_166 wd_168 wd_p0 (by decide +kernel) [] rfl rfl (rmI (by omega) (by decide)) (Nat.le_of_ble_eq_true rfl) ⟨Nat.le_of_ble_eq_true rfl, Nat.le_of_ble_eq_true rfl⟩ (kMV (fun m_1 h_2 => ?_))
  have hO : m_1 = opR mem t := h_2
  refine jblk hF [(.aload_n 0, 1), (.iload_n 3, 1)] (by decide +kernel) (pc' := 7) (lo' := [(0, (2, 7)), (1, (2, t)), (2, (0, lab)), (3, (0, n)), (4, (0, b)), (5, (0, x))]) (st' := [(0, n), (2, 7)]) rfl ?_
  refine ji2l hF (by decide +kernel) (by omega) ?_
  refine jput hF 6 3 1 3 rfl (by decide) (by decide) rfl wd_173 (by decide +kernel) rfl (Or.inr (Or.inr (Or.inl rfl))) (by first | assumption | omega) (fun h => by cases h) ?_
  refine jblk hF [(.aload_n 0, 1), (.iload 4, 2)] (by decide +kernel) (pc' := 14) (lo' := [(0, (2, 7)), (1, (2, t)), (2, (0, lab)), (3, (0, n)), (4, (0, b)), (5, (0, x))]) (st' := [(0, b), (2, 7)]) rfl ?_
  refine ji2l hF (by decide +kernel) (by omega) ?_
  refine jput hF 6 4 1 4 rfl (by decide) (by decide) rfl wd_174 (by decide +kernel) rfl (Or.inr (Or.inr (Or.inl rfl))) (by first | assumption | omega) (fun h => by cases h) ?_
  refine jblk hF [(.aload_n 0, 1), (.iload 5, 2)] (by decide +kernel) (pc' := 21) (lo' := [(0, (2, 7)), (1, (2, t)), (2, (0, lab)), (3, (0, n)), (4, (0, b)), (5, (0, x))]) (st' := [(0, x), (2, 7)]) rfl ?_
  refine ji2l hF (by decide +kernel) (by omega) ?_
  refine jput hF 6 5 1 5 rfl (by decide) (by decide) rfl wd_175 (by decide +kernel) rfl (Or.inr (Or.inr (Or.inl rfl))) (by first | assumption | omega) (fun h => by cases h) ?_
  obtain ⟨mo, hmo⟩ : ∃ q : Int → Int → Int, q = (set2 (set2 (set2 m_1 7 3 n) 7 4 b) 7 5 x) := ⟨_, rfl⟩
  rw [← hmo]
  have hmo2 : mo = set2 (set2 (set2 (opR mem t) 7 3 n) 7 4 b) 7 5 x := by rw [hmo, hO]
  have hmf : ∀ b2 j2 : Int, ¬ (b2 = 7 ∧ (j2 = 3 ∨ j2 = 4 ∨ j2 = 5)) → mo b2 j2 = opR mem t b2 j2 := fun b2 j2 hb => by rw [hmo2]; unfold set2; rw [if_neg (by omega), if_neg (by omega), if_neg (by omega)]
  have e3 : mo 7 3 = n := by rw [hmo2, s2_k (by decide), s2_k (by decide)]; exact s2_s
  have e4 : mo 7 4 = b := by rw [hmo2, s2_k (by decide)]; exact s2_s
  have e5 : mo 7 5 = x := by rw [hmo2]; exact s2_s
  have heb1 : EB mo := ⟨by omega, by omega, by omega⟩
  have hST1 : STT kd ln t r T L mo := opR_st hTX hk7 heb1 (by rw [hmf _ _ (by omega)]; exact opR_f.1) (by rw [hmf _ _ (by omega)]; exact opR_f.2.1) (by rw [hmf _ _ (by omega)]; exact opR_f.2.2) (fun b2 j2 hb => by rw [hmf _ _ (by omega)]; exact opR_o hb)
  have hLb := hST1.L
  have hen1 : envR mo = envF n b x := by funext c; unfold envR envF; rw [e3, e4, e5]
  have hw1 : mo 7 2 = -1 := by rw [hmf _ _ (by omega)]; exact opR_f.2.2
  have ha1 : mo 7 1 = 0 := by rw [hmf _ _ (by omega)]; exact opR_f.2.1
  have hwj1 : WRJ T L (envF n b x) lab (worV T L (envF n b x) lab) 0 (mo 7 1) := by rw [ha1]; exact ⟨by omega, Or.inl ⟨by omega, by omega, 200, by omega, hfa, rfl⟩⟩
  refine jblk hF [(.iconst 0, 1), (.istore 6, 2)] (by decide +kernel) (pc' := 28) (lo' := [(6, (0, 0)), (0, (2, 7)), (1, (2, t)), (2, (0, lab)), (3, (0, n)), (4, (0, b)), (5, (0, x))]) (st' := []) rfl ?_
  have L_4 : ∀ (fu_5 : Nat) (i : Int) (m : Int → Int → Int), (RDX kd ln t r T L m) → (EB m) → (m 7 2 = -1) → (∀ b j : Int, b ≠ 7 → m b j = mem b j) → (envR m = envF n b x) → (WRJ T L (envF n b x) lab (worV T L (envF n b x) lab) i (m 7 1)) → (0 ≤ i ∧ i ≤ L + 1 ∧ 0 ≤ m 7 1 ∧ m 7 1 ≤ L + 1) →  (L + 2 - i).toNat < fu_5 → J z g 8 0 0 (QM z g 0 0 (pMR 0 (fun v mem' => (v = (worV T L (envF n b x) lab) ∧ (∀ b j : Int, b ≠ 7 → mem' b j = mem b j) ∧ EB mem')) kd ln sz)) 28 [(0, (2, 7)), (1, (2, t)), (2, (0, lab)), (3, (0, n)), (4, (0, b)), (5, (0, x)), (6, (0, i))] [] kd ln m sz := by
    intro fu_5
    induction fu_5 with
    | zero => intro i m _ _ _ _ _ _ _ hm; omega
    | succ fu_5 ih_3 =>
      intro i m hst heb hw hfr hen hwj hi hm
      have hRDm := hst
      have ⟨n1, n2, n3, n4, n5, n6, n7, n8, n9, n10, n11, n12, n13⟩ := hRDm
      have kt2 : kd (m 7 0) = 12 := by rw [n2]; exact n3
      have kr2 : kd (m (m 7 0) 0) = 20 := by rw [n2, n5]; exact n7
      have kL2 : m (m 7 0) 1 = L := by rw [n2]; exact n6
      have kT2 : m (m (m 7 0) 0) = T := by rw [n2, n5]; exact n9
      have kn2 : ln (m (m 7 0) 0) = ln r := by rw [n2, n5]
      have kg2 : 3 ≤ m 7 0 ∧ 3 ≤ m (m 7 0) 0 := by rw [n2, n5]; omega
      have ham : m 7 2 = -1 → 0 ≤ m 7 1 ∧ m 7 1 ≤ L + 1 := fun _ => by omega
      have hwm : InI (m 7 2) := by rw [hw]; exact ⟨by decide, by decide⟩
      refine jblk hF [(.iload 6, 2), (.aload_n 0, 1)] (by decide +kernel) (pc' := 31) (lo' := [(0, (2, 7)), (1, (2, t)), (2, (0, lab)), (3, (0, n)), (4, (0, b)), (5, (0, x)), (6, (0, i))]) (st' := [(2, 7), (0, i)]) rfl ?_
      refine jget hF 6 0 2 0 rfl (by decide) (by decide) rfl wd_170 (by decide +kernel) (by first | assumption | omega) ?_
      refine jget hF 11 1 0 1 rfl (by decide) (by decide) rfl wd_150 (by decide +kernel) (by first | assumption | omega) ?_
      refine jicmp_gt hF (off := 69) 106 (by decide +kernel) (by decide) (by omega) (by omega) (fun h_6 => ?_) (fun h_6 => ?_)
      · refine jblk hF [(.iconst 0, 1)] (by decide +kernel) (pc' := 107) (lo' := [(0, (2, 7)), (1, (2, t)), (2, (0, lab)), (3, (0, n)), (4, (0, b)), (5, (0, x)), (6, (0, i))]) (st' := [(0, 0)]) rfl ?_
        refine jiret hF hr (by decide +kernel) ?_
        exact lMR (by first | exact ⟨(wrj_end hwj (by omega) (by omega)).symm, hfr1, heb2⟩ | exact ⟨(wrj_end hwj (by omega) (by omega)).symm, hfr, heb⟩)
      · refine jblk hF [(.aload_n 0, 1)] (by decide +kernel) (pc' := 41) (lo' := [(0, (2, 7)), (1, (2, t)), (2, (0, lab)), (3, (0, n)), (4, (0, b)), (5, (0, x)), (6, (0, i))]) (st' := [(2, 7)]) rfl ?_
        refine jcallV hF (c_X5_nextSign hG (by exact t) (by exact r) (by exact T) (by exact L) (by assumption) (by omega) (by omega)) MW_X5_nextSign 6 (by decide) (by first | assumption | omega) wd_580 wd_582 wd_p6 (by decide +kernel) [] rfl rfl (rmI (by omega) (by decide)) (Nat.le_of_ble_eq_true rfl) ⟨Nat.le_of_ble_eq_true rfl, Nat.le_of_ble_eq_true rfl⟩ (kMR (fun v_9 m_7 h_8 => ?_))
        have hq := h_8
        have lk := look_ok hq hw
        have hvb : -2 ≤ v_9 ∧ v_9 ≤ 255 := by rw [hq.1]; exact nsV_bd hst ham
        have hv0 := lk.1
        have hRD1 : RDX kd ln t r T L m_7 := by rw [hq.2]; exact hst.up
        have hwx1 : m_7 7 2 = -1 := lk.2.2.2
        have hfr1 : ∀ b2 j2 : Int, b2 ≠ 7 → m_7 b2 j2 = mem b2 j2 := fun b2 j2 hb => by rw [hq.2, upR_o (by omega)]; exact hfr b2 j2 hb
        have heb2 : EB m_7 := by rw [hq.2]; exact heb.up
        have hna2 : 0 ≤ m_7 7 1 ∧ m_7 7 1 ≤ L + 1 := by have q := nsA_bd (T := T) ham hw; rw [hw, nsA_in] at q; rw [lk.2.2.1]; exact q
        refine jif_lt hF (off := 62) 106 (by decide +kernel) (by decide) (by omega) (fun h_10 => ?_) (fun h_10 => ?_)
        · refine jblk hF [(.iconst 0, 1)] (by decide +kernel) (pc' := 107) (lo' := [(0, (2, 7)), (1, (2, t)), (2, (0, lab)), (3, (0, n)), (4, (0, b)), (5, (0, x)), (6, (0, i))]) (st' := [(0, 0)]) rfl ?_
          refine jiret hF hr (by decide +kernel) ?_
          exact lMR (by first | exact ⟨(wrj_end hwj (by omega) (by omega)).symm, hfr1, heb2⟩ | exact ⟨(wrj_end hwj (by omega) (by omega)).symm, hfr, heb⟩)
        · have hin := wrj_in hwj (by omega) (by omega)
          have hcl := clP_lab hin.1.1 hin.1.2 hin.2.2.1
          have hlt0 : skp T L (m 7 1) < L := chr_lt T (by omega)
          have hsk0 := (skp_f T L (m 7 1)).1
          refine jblk hF [(.aload_n 0, 1)] (by decide +kernel) (pc' := 48) (lo' := [(0, (2, 7)), (1, (2, t)), (2, (0, lab)), (3, (0, n)), (4, (0, b)), (5, (0, x)), (6, (0, i))]) (st' := [(2, 7)]) rfl ?_
          refine jcallV hF (c_X5_nextSign hG (by exact t) (by exact r) (by exact T) (by exact L) (by assumption) (by omega) (by omega)) MW_X5_nextSign 6 (by decide) (by first | assumption | omega) wd_580 wd_582 wd_p6 (by decide +kernel) [] rfl rfl (rmI (by omega) (by decide)) (Nat.le_of_ble_eq_true rfl) ⟨Nat.le_of_ble_eq_true rfl, Nat.le_of_ble_eq_true rfl⟩ (kMR (fun v_13 m_11 h_12 => ?_))
          have hq2 := h_12
          have e2m := hq2.2.trans (look_twice hq)
          have hv2 := (hq2.1.trans (look_met hq (by omega)).1)
          refine jblk hF [(.iload_n 2, 1)] (by decide +kernel) (pc' := 52) (lo' := [(0, (2, 7)), (1, (2, t)), (2, (0, lab)), (3, (0, n)), (4, (0, b)), (5, (0, x)), (6, (0, i))]) (st' := [(0, lab), (0, v_13)]) rfl ?_
          refine jicmp_ne hF (off := 7) 59 (by decide +kernel) (by decide) (by omega) (by omega) (fun h_14 => ?_) (fun h_14 => ?_)
          · refine jblk hF [(.iconst 0, 1), (.istore 7, 2), (.aload_n 0, 1), (.dup, 1)] (by decide +kernel) (pc' := 64) (lo' := [(7, (0, 0)), (0, (2, 7)), (1, (2, t)), (2, (0, lab)), (3, (0, n)), (4, (0, b)), (5, (0, x)), (6, (0, i))]) (st' := [(2, 7), (2, 7)]) rfl ?_
            refine jget hF 6 1 0 1 rfl (by decide) (by decide) rfl wd_171 (by decide +kernel) (by first | assumption | omega) ?_
            refine jblk hF [(.iconst 1, 1), (.iadd, 1)] (by decide +kernel) (pc' := 69) (lo' := [(7, (0, 0)), (0, (2, 7)), (1, (2, t)), (2, (0, lab)), (3, (0, n)), (4, (0, b)), (5, (0, x)), (6, (0, i))]) (st' := [(0, (m_11 7 1) + 1), (2, 7)]) rfl ?_
            refine jput hF 6 1 0 1 rfl (by decide) (by decide) rfl wd_171 (by decide +kernel) rfl (Or.inl rfl) (by first | assumption | omega) (fun h => by cases h) ?_
            have h3 : (LBL (chr T L (skp T L (m 7 1))) ∧ (set2 m_11 7 1 ((m_11 7 1) + 1)) = upR m (skp T L (m 7 1) + 1) (-1)) ∨ (¬ LBL (chr T L (skp T L (m 7 1))) ∧ (set2 m_11 7 1 ((m_11 7 1) + 1)) = upR m (skp T L (m 7 1) + 1) (skp T L (m 7 1))) := lab_at hq hw hin.1 (m3 := (set2 m_11 7 1 ((m_11 7 1) + 1))) (Or.inl ⟨by rw [hv0]; exact hin.2.1, by rw [e2m]⟩)
            have hST3 := lab_st (⟨hst, heb, fun _ => hin.1, by rw [hw]; exact ⟨by decide, by decide⟩⟩ : STT kd ln t r T L m) hin.1 h3
            have hRDx3 := hST3.1
            have hax3 : (set2 m_11 7 1 ((m_11 7 1) + 1)) 7 2 = -1 → 0 ≤ (set2 m_11 7 1 ((m_11 7 1) + 1)) 7 1 ∧ (set2 m_11 7 1 ((m_11 7 1) + 1)) 7 1 ≤ L + 1 := fun q => by have := hST3.2.2.1 q; omega
            have hwx3 := hST3.2.2.2
            refine jblk hF [(.aload_n 0, 1), (.bipush 58, 2)] (by decide +kernel) (pc' := 75) (lo' := [(7, (0, 0)), (0, (2, 7)), (1, (2, t)), (2, (0, lab)), (3, (0, n)), (4, (0, b)), (5, (0, x)), (6, (0, i))]) (st' := [(0, 58), (2, 7)]) rfl ?_
            refine jcallV hF (c_X5_demand hG 58 (by exact t) (by exact r) (by exact T) (by exact L) (by assumption) (by omega) (by omega) (by decide)) MW_X5_demand 6 (by decide) (by first | assumption | omega) wd_591 wd_593 wd_p8 (by decide +kernel) [] rfl rfl (rmI (by omega) (by decide)) (Nat.le_of_ble_eq_true rfl) ⟨Nat.le_of_ble_eq_true rfl, Nat.le_of_ble_eq_true rfl⟩ (kMV (fun m_15 h_16 => ?_))
            have hd := h_16
            have hST4 := dem_st hST3 (fun q => by omega) (fun q => hd.trans (if_pos q)) (fun q => hd.trans (if_neg q))
            have e4 : m_15 = upR m (skp T L (skp T L (m 7 1) + 1) + 1) (-1) := by
              rcases h3 with ⟨-, h3⟩ | ⟨h3, -⟩
              · rw [h3, upR_1, upR_2, nsV_in, nsA_in, if_pos hin.2.2.2, upR_up] at hd; exact hd
              · exact absurd hin.2.1 h3
            have e41 : m_15 7 1 = skp T L (skp T L (m 7 1) + 1) + 1 := by rw [e4]; exact upR_1
            refine jblk hF [(.iload 7, 2)] (by decide +kernel) (pc' := 80) (lo' := [(7, (0, 0)), (0, (2, 7)), (1, (2, t)), (2, (0, lab)), (3, (0, n)), (4, (0, b)), (5, (0, x)), (6, (0, i))]) (st' := [(0, 0)]) rfl ?_
            refine jif_eq hF (off := 16) 96 (by decide +kernel) (by decide) (by decide) (fun _ => ?_) (fun h => absurd h (by decide))
            have hRD9 : RDX kd ln t r T L m_15 := by first | exact hST5.1 | exact hST4.1
            have hEB9 : EB m_15 := by first | exact hST5.2.1 | exact hST4.2.1
            have hw9 : m_15 7 2 = -1 := by first | exact hR.w.trans hin.2.2.1 | (rw [e4]; exact upR_2)
            have ha9 : m 7 1 ≤ m_15 7 1 ∧ m_15 7 1 ≤ (clP T L (m 7 1)).2.1 := by
              have hgd := ((clP_gd T L hin.1.1 hin.1.2).1 hin.2.2.1).1
              first
              | (have q := hR.a hin.2.2.1; omega)
              | omega
            have haL := ((clP_gd T L hin.1.1 hin.1.2).1 hin.2.2.1).2.1
            have hno : ¬ ((clP T L (m 7 1)).2.2.1 = lab ∧ valC (envF n b x) (clP T L (m 7 1)).2.2.2.1 ≠ 0) := by
              intro hz
              first
              | (have q := hz.2; rw [← hen, hRE.2.1.val] at q; omega)
              | (have q := hz.1; rw [hcl.1] at q; omega)
            have hfrA : ∀ b2 j2 : Int, b2 ≠ 7 → m_15 b2 j2 = mem b2 j2 := fun b2 j2 hb => by first | (rw [hR.o (Or.inl hb)]; exact hfr b2 j2 hb) | (rw [e4, upR_o (by omega)]; exact hfr b2 j2 hb)
            have henA : envR m_15 = envF n b x := by first | (rw [hRE.1, envR_6, envR_up]; exact hen) | (rw [e4, envR_up]; exact hen)
            refine jblk hF [(.aload_n 0, 1)] (by decide +kernel) (pc' := 97) (lo' := [(7, (0, 0)), (0, (2, 7)), (1, (2, t)), (2, (0, lab)), (3, (0, n)), (4, (0, b)), (5, (0, x)), (6, (0, i))]) (st' := [(2, 7)]) rfl ?_
            refine jcallV hF (c_X5_toNextClause hG (by exact t) (by exact r) (by exact T) (by exact L) (by assumption) (by omega)) MW_X5_toNextClause 6 (by decide) (by first | assumption | omega) wd_776 wd_778 wd_p21 (by decide +kernel) [] rfl rfl (rmI (by omega) (by decide)) (Nat.le_of_ble_eq_true rfl) ⟨Nat.le_of_ble_eq_true rfl, Nat.le_of_ble_eq_true rfl⟩ (kMV (fun m_18 h_19 => ?_))
            have hnx := h_19
            have hnw := wrj_next hwj (by omega) (by omega) hst.2.2.2.2.2.2.2.2.2.2.2.2 (b := m_15 7 1) (by omega) hno
            have hw2 : m_18 7 2 = -1 := by rw [hnx, upR_2]; exact hw9
            have e9 : m_18 7 1 = nxC T L (m_15 7 1) + 1 := by rw [hnx]; exact upR_1
            have hfr9 : ∀ b2 j2 : Int, b2 ≠ 7 → m_18 b2 j2 = mem b2 j2 := fun b2 j2 hb => by rw [hnx, upR_o (by omega)]; exact hfrA b2 j2 hb
            have hen9 : envR m_18 = envF n b x := by rw [hnx, envR_up]; exact henA
            have hrd9 : RDX kd ln t r T L m_18 := by rw [hnx]; exact hRD9.up
            have heb9 : EB m_18 := by rw [hnx]; exact hEB9.up
            refine jblk hF [(.iinc 6 1, 3)] (by decide +kernel) (pc' := 103) (lo' := [(6, (0, i + 1)), (7, (0, 0)), (0, (2, 7)), (1, (2, t)), (2, (0, lab)), (3, (0, n)), (4, (0, b)), (5, (0, x))]) (st' := []) rfl ?_
            refine jgoto hF (off := (-75)) 28 (by decide +kernel) (by decide) ?_
            refine jsub [2, 3, 4, 5, 6, 7, 0] rfl ?_
            refine ih_3 (i + 1) m_18 ?_ ?_ ?_ ?_ ?_ ?_ ?_ ?_
            · exact hrd9
            · exact heb9
            · exact hw2
            · exact hfr9
            · exact hen9
            · (rw [e9]; exact hnw.1)
            · (rw [e9]; exact ⟨by omega, by omega, hnw.2⟩)
            · omega
          · refine jblk hF [(.iconst 1, 1)] (by decide +kernel) (pc' := 56) (lo' := [(0, (2, 7)), (1, (2, t)), (2, (0, lab)), (3, (0, n)), (4, (0, b)), (5, (0, x)), (6, (0, i))]) (st' := [(0, 1)]) rfl ?_
            refine jgoto hF (off := 4) 60 (by decide +kernel) (by decide) ?_
            refine jblk hF [(.istore 7, 2), (.aload_n 0, 1), (.dup, 1)] (by decide +kernel) (pc' := 64) (lo' := [(7, (0, 1)), (0, (2, 7)), (1, (2, t)), (2, (0, lab)), (3, (0, n)), (4, (0, b)), (5, (0, x)), (6, (0, i))]) (st' := [(2, 7), (2, 7)]) rfl ?_
            refine jget hF 6 1 0 1 rfl (by decide) (by decide) rfl wd_171 (by decide +kernel) (by first | assumption | omega) ?_
            refine jblk hF [(.iconst 1, 1), (.iadd, 1)] (by decide +kernel) (pc' := 69) (lo' := [(7, (0, 1)), (0, (2, 7)), (1, (2, t)), (2, (0, lab)), (3, (0, n)), (4, (0, b)), (5, (0, x)), (6, (0, i))]) (st' := [(0, (m_11 7 1) + 1), (2, 7)]) rfl ?_
            refine jput hF 6 1 0 1 rfl (by decide) (by decide) rfl wd_171 (by decide +kernel) rfl (Or.inl rfl) (by first | assumption | omega) (fun h => by cases h) ?_
            have h3 : (LBL (chr T L (skp T L (m 7 1))) ∧ (set2 m_11 7 1 ((m_11 7 1) + 1)) = upR m (skp T L (m 7 1) + 1) (-1)) ∨ (¬ LBL (chr T L (skp T L (m 7 1))) ∧ (set2 m_11 7 1 ((m_11 7 1) + 1)) = upR m (skp T L (m 7 1) + 1) (skp T L (m 7 1))) := lab_at hq hw hin.1 (m3 := (set2 m_11 7 1 ((m_11 7 1) + 1))) (Or.inl ⟨by rw [hv0]; exact hin.2.1, by rw [e2m]⟩)
            have hST3 := lab_st (⟨hst, heb, fun _ => hin.1, by rw [hw]; exact ⟨by decide, by decide⟩⟩ : STT kd ln t r T L m) hin.1 h3
            have hRDx3 := hST3.1
            have hax3 : (set2 m_11 7 1 ((m_11 7 1) + 1)) 7 2 = -1 → 0 ≤ (set2 m_11 7 1 ((m_11 7 1) + 1)) 7 1 ∧ (set2 m_11 7 1 ((m_11 7 1) + 1)) 7 1 ≤ L + 1 := fun q => by have := hST3.2.2.1 q; omega
            have hwx3 := hST3.2.2.2
            refine jblk hF [(.aload_n 0, 1), (.bipush 58, 2)] (by decide +kernel) (pc' := 75) (lo' := [(7, (0, 1)), (0, (2, 7)), (1, (2, t)), (2, (0, lab)), (3, (0, n)), (4, (0, b)), (5, (0, x)), (6, (0, i))]) (st' := [(0, 58), (2, 7)]) rfl ?_
            refine jcallV hF (c_X5_demand hG 58 (by exact t) (by exact r) (by exact T) (by exact L) (by assumption) (by omega) (by omega) (by decide)) MW_X5_demand 6 (by decide) (by first | assumption | omega) wd_591 wd_593 wd_p8 (by decide +kernel) [] rfl rfl (rmI (by omega) (by decide)) (Nat.le_of_ble_eq_true rfl) ⟨Nat.le_of_ble_eq_true rfl, Nat.le_of_ble_eq_true rfl⟩ (kMV (fun m_20 h_21 => ?_))
            have hd := h_21
            have hST4 := dem_st hST3 (fun q => by omega) (fun q => hd.trans (if_pos q)) (fun q => hd.trans (if_neg q))
            have e4 : m_20 = upR m (skp T L (skp T L (m 7 1) + 1) + 1) (-1) := by
              rcases h3 with ⟨-, h3⟩ | ⟨h3, -⟩
              · rw [h3, upR_1, upR_2, nsV_in, nsA_in, if_pos hin.2.2.2, upR_up] at hd; exact hd
              · exact absurd hin.2.1 h3
            have e41 : m_20 7 1 = skp T L (skp T L (m 7 1) + 1) + 1 := by rw [e4]; exact upR_1
            refine jblk hF [(.iload 7, 2)] (by decide +kernel) (pc' := 80) (lo' := [(7, (0, 1)), (0, (2, 7)), (1, (2, t)), (2, (0, lab)), (3, (0, n)), (4, (0, b)), (5, (0, x)), (6, (0, i))]) (st' := [(0, 1)]) rfl ?_
            refine jif_eq hF (off := 16) 96 (by decide +kernel) (by decide) (by decide) (fun h => absurd h (by decide)) (fun _ => ?_)
            refine jblk hF [(.aload_n 0, 1)] (by decide +kernel) (pc' := 84) (lo' := [(7, (0, 1)), (0, (2, 7)), (1, (2, t)), (2, (0, lab)), (3, (0, n)), (4, (0, b)), (5, (0, x)), (6, (0, i))]) (st' := [(2, 7)]) rfl ?_
            refine jcallV hF (c_X5_readsClause hG (by exact t) (by exact r) (by exact T) (by exact L) (by exact hST4.1) (by exact hST4.2.1) (by exact hST4.2.2.1) (by exact hST4.2.2.2) (by exact chr T L (skp T L (m 7 1)))) MW_X5_readsClause 6 (by decide) (by first | assumption | omega) wd_595 wd_597 wd_p9 (by decide +kernel) [] rfl rfl (rmI (by omega) (by decide)) (Nat.le_of_ble_eq_true rfl) ⟨Nat.le_of_ble_eq_true rfl, Nat.le_of_ble_eq_true rfl⟩ (kMR (fun v_25 m_23 h_24 => ?_))
            have hRC := h_24
            have hR := cl_read hin.1 h3 hd hRC.2.1
            have hST5 := hRC.2.2
            have hRE := hR.1 hin.2.2.1
            have hv7 := hRC.1
            refine jif_eq hF (off := 9) 96 (by decide +kernel) (by decide) (by omega) (fun h_26 => ?_) (fun h_26 => ?_)
            · have hRD9 : RDX kd ln t r T L m_23 := by first | exact hST5.1 | exact hST4.1
              have hEB9 : EB m_23 := by first | exact hST5.2.1 | exact hST4.2.1
              have hw9 : m_23 7 2 = -1 := by first | exact hR.w.trans hin.2.2.1 | (rw [e4]; exact upR_2)
              have ha9 : m 7 1 ≤ m_23 7 1 ∧ m_23 7 1 ≤ (clP T L (m 7 1)).2.1 := by
                have hgd := ((clP_gd T L hin.1.1 hin.1.2).1 hin.2.2.1).1
                first
                | (have q := hR.a hin.2.2.1; omega)
                | omega
              have haL := ((clP_gd T L hin.1.1 hin.1.2).1 hin.2.2.1).2.1
              have hno : ¬ ((clP T L (m 7 1)).2.2.1 = lab ∧ valC (envF n b x) (clP T L (m 7 1)).2.2.2.1 ≠ 0) := by
                intro hz
                first
                | (have q := hz.2; rw [← hen, hRE.2.1.val] at q; omega)
                | (have q := hz.1; rw [hcl.1] at q; omega)
              have hfrA : ∀ b2 j2 : Int, b2 ≠ 7 → m_23 b2 j2 = mem b2 j2 := fun b2 j2 hb => by first | (rw [hR.o (Or.inl hb)]; exact hfr b2 j2 hb) | (rw [e4, upR_o (by omega)]; exact hfr b2 j2 hb)
              have henA : envR m_23 = envF n b x := by first | (rw [hRE.1, envR_6, envR_up]; exact hen) | (rw [e4, envR_up]; exact hen)
              refine jblk hF [(.aload_n 0, 1)] (by decide +kernel) (pc' := 97) (lo' := [(7, (0, 1)), (0, (2, 7)), (1, (2, t)), (2, (0, lab)), (3, (0, n)), (4, (0, b)), (5, (0, x)), (6, (0, i))]) (st' := [(2, 7)]) rfl ?_
              refine jcallV hF (c_X5_toNextClause hG (by exact t) (by exact r) (by exact T) (by exact L) (by assumption) (by omega)) MW_X5_toNextClause 6 (by decide) (by first | assumption | omega) wd_776 wd_778 wd_p21 (by decide +kernel) [] rfl rfl (rmI (by omega) (by decide)) (Nat.le_of_ble_eq_true rfl) ⟨Nat.le_of_ble_eq_true rfl, Nat.le_of_ble_eq_true rfl⟩ (kMV (fun m_27 h_28 => ?_))
              have hnx := h_28
              have hnw := wrj_next hwj (by omega) (by omega) hst.2.2.2.2.2.2.2.2.2.2.2.2 (b := m_23 7 1) (by omega) hno
              have hw2 : m_27 7 2 = -1 := by rw [hnx, upR_2]; exact hw9
              have e9 : m_27 7 1 = nxC T L (m_23 7 1) + 1 := by rw [hnx]; exact upR_1
              have hfr9 : ∀ b2 j2 : Int, b2 ≠ 7 → m_27 b2 j2 = mem b2 j2 := fun b2 j2 hb => by rw [hnx, upR_o (by omega)]; exact hfrA b2 j2 hb
              have hen9 : envR m_27 = envF n b x := by rw [hnx, envR_up]; exact henA
              have hrd9 : RDX kd ln t r T L m_27 := by rw [hnx]; exact hRD9.up
              have heb9 : EB m_27 := by rw [hnx]; exact hEB9.up
              refine jblk hF [(.iinc 6 1, 3)] (by decide +kernel) (pc' := 103) (lo' := [(6, (0, i + 1)), (7, (0, 1)), (0, (2, 7)), (1, (2, t)), (2, (0, lab)), (3, (0, n)), (4, (0, b)), (5, (0, x))]) (st' := []) rfl ?_
              refine jgoto hF (off := (-75)) 28 (by decide +kernel) (by decide) ?_
              refine jsub [2, 3, 4, 5, 6, 7, 0] rfl ?_
              refine ih_3 (i + 1) m_27 ?_ ?_ ?_ ?_ ?_ ?_ ?_ ?_
              · exact hrd9
              · exact heb9
              · exact hw2
              · exact hfr9
              · exact hen9
              · (rw [e9]; exact hnw.1)
              · (rw [e9]; exact ⟨by omega, by omega, hnw.2⟩)
              · omega
            · refine jblk hF [(.aload_n 0, 1)] (by decide +kernel) (pc' := 91) (lo' := [(7, (0, 1)), (0, (2, 7)), (1, (2, t)), (2, (0, lab)), (3, (0, n)), (4, (0, b)), (5, (0, x)), (6, (0, i))]) (st' := [(2, 7)]) rfl ?_
              refine jget hF 6 6 1 6 rfl (by decide) (by decide) rfl wd_176 (by decide +kernel) (by first | assumption | omega) ?_
              refine jblk hF [(.l2i, 1)] (by decide +kernel) (pc' := 95) (lo' := [(7, (0, 1)), (0, (2, 7)), (1, (2, t)), (2, (0, lab)), (3, (0, n)), (4, (0, b)), (5, (0, x)), (6, (0, i))]) (st' := [(0, m_23 7 6)]) rfl ?_
              refine jiret hF hr (by decide +kernel) ?_
              exact lMR (by exact ⟨by have q1 := wrj_hit hwj (by omega) ⟨by rw [hcl.1]; omega, by rw [← hen, hRE.2.1.val]; omega⟩; rw [q1, ← hen, hRE.2.2.val], fun b2 j2 hb => by rw [hR.o (Or.inl hb)]; exact hfr b2 j2 hb, hST5.2.1⟩)
  refine jsub [1, 2, 3, 4, 5, 6, 0] rfl ?_
  refine L_4 _ 0 mo ?_ ?_ ?_ ?_ ?_ ?_ ?_ (Nat.lt_succ_self _)
  · exact hST1.1
  · exact heb1
  · exact hw1
  · (intro b2 j2 hb; rw [hmf _ _ (by omega)]; exact opR_o hb)
  · exact hen1
  · exact hwj1
  · omega
end
