section
def ecR (r : CR) : PR := if r.1 = -1 then okP r.2.1 (enC r) else erP r.1
theorem ec_ok {a lab : Int} {c s : List Int} : ecR (-1, a, lab, c, s) = okP a (enC (-1, a, lab, c, s)) := if_pos rfl
theorem ec_er {w : Int} (h : w ≠ -1) : ecR (erC w) = erP w := if_neg h
/-- what a clause's reading gives -/
def CGD (T : Int → Int) (L a0 : Int) (r : CR) : Prop :=
  (r.1 = -1 → a0 < r.2.1 ∧ r.2.1 ≤ L ∧ isLb r.2.2.1 ∧ ((enC r).length : Int) ≤ 2 * (r.2.1 - a0) + 1 ∧ (∀ x ∈ enC r, 0 ≤ x ∧ x ≤ 9999) ∧ (∀ i : Int, a0 ≤ i → i < r.2.1 → T i ≠ 59) ∧ (∀ env : Int → Int, (∀ x, InI (env x)) → ∃ v, EV env r.2.2.2.1 v) ∧ ∀ env : Int → Int, (∀ x, InI (env x)) → ∃ v, EV env r.2.2.2.2 v) ∧
  (r.1 ≠ -1 → a0 ≤ r.1 ∧ r.1 ≤ L)
theorem CGD.er {T : Int → Int} {L a0 w : Int} (h0 : 0 ≤ a0) (h : a0 ≤ w ∧ w ≤ L) : CGD T L a0 (erC w) := ⟨fun q => by have : w = -1 := q; omega, fun _ => h⟩
theorem en_len (r : CR) : ((enC r).length : Int) = r.2.2.2.1.length + r.2.2.2.2.length + 3 := by
  unfold enC
  simp only [List.length_cons, List.length_append, List.length_nil]
  omega
theorem en_mem {r : CR} {P : Int → Prop} (h1 : P r.2.2.1) (h2 : ∀ x ∈ r.2.2.2.1, P x) (h3 : P 2) (h4 : ∀ x ∈ r.2.2.2.2, P x) (h5 : P 3) : ∀ x ∈ enC r, P x := by
  intro x hx
  unfold enC at hx
  rcases List.mem_cons.mp hx with q | q
  · rw [q]; exact h1
  · rcases List.mem_append.mp q with q | q
    · exact h2 x q
    · rcases List.mem_cons.mp q with q | q
      · rw [q]; exact h3
      · rcases List.mem_append.mp q with q | q
        · exact h4 x q
        · rw [List.mem_singleton.mp q]; exact h5
theorem finC_gd {T : Int → Int} {L a0 b0 lab : Int} {r : PR} (h0 : 0 ≤ a0) (hb : a0 + 2 ≤ b0) (hl : isLb lab) (hn : ∀ i : Int, a0 ≤ i → i < b0 → T i ≠ 59) (h : GD T L b0 r) : CGD T L a0 (finC T L lab r) := by
  unfold finC
  split
  · rename_i q
    have := h.2 q
    exact CGD.er h0 (by omega)
  · rename_i q
    have q : r.1 = -1 := by omega
    have hg := (h.1 q).skp
    obtain ⟨g1, g2, g3, g4, g5, g6, g7⟩ := hg
    split
    · exact CGD.er h0 (by omega)
    · rename_i q2
      have q2 : chr T L (skp T L r.2.1) = 63 := by omega
      have hlt : skp T L r.2.1 < L := chr_lt T (by omega)
      have hs := sumP_gd T L 6 (skp T L r.2.1 + 1) (by omega) (by omega)
      split
      · rename_i q3
        have := hs.2 q3
        exact CGD.er h0 (by omega)
      · rename_i q3
        have q3 : (sumP T L 6 (skp T L r.2.1 + 1)).1 = -1 := by omega
        obtain ⟨s1, s2, s3, s4, s5, s6, s7⟩ := hs.1 q3
        refine ⟨fun _ => ⟨by show a0 < (sumP T L 6 _).2.1; omega, s2, hl, ?_, en_mem (show 0 ≤ lab ∧ lab ≤ 9999 by omega) g5 (by omega) s5 (by omega), fun i q4 q5 => ?_, g7, s7⟩, fun q => absurd rfl q⟩
        · rw [en_len]
          show (r.2.2.length : Int) + ((sumP T L 6 (skp T L r.2.1 + 1)).2.2.length : Int) + 3 ≤ 2 * ((sumP T L 6 (skp T L r.2.1 + 1)).2.1 - a0) + 1
          omega
        · rcases Int.lt_or_le i b0 with p | p
          · exact hn i q4 p
          · rcases Int.lt_or_le i (skp T L r.2.1) with p2 | p2
            · exact g6 i p p2
            · rcases Int.lt_or_le i (skp T L r.2.1 + 1) with p3 | p3
              · rw [show i = skp T L r.2.1 by omega, ← chr_in (T := T) hlt, q2]; decide
              · exact s6 i p3 q5
theorem clP_gd (T : Int → Int) (L : Int) {a : Int} (h0 : 0 ≤ a) (h1 : a ≤ L) : CGD T L a (clP T L a) := by
  obtain ⟨s1, s2, -, s4⟩ := skp_f T L a
  have hL := s2 h1
  unfold clP
  split
  · exact CGD.er h0 (by omega)
  · rename_i q1
    have q1 : isLb (chr T L (skp T L a)) := Classical.not_not.mp q1
    have hlt : skp T L a < L := chr_lt T (by omega)
    obtain ⟨t1, t2, -, t4⟩ := skp_f T L (skp T L a + 1)
    have tL := t2 (by omega)
    split
    · exact CGD.er h0 (by omega)
    · rename_i q2
      have q2 : chr T L (skp T L (skp T L a + 1)) = 58 := by omega
      have hlt2 : skp T L (skp T L a + 1) < L := chr_lt T (by omega)
      obtain ⟨u1, u2, -, u4⟩ := skp_f T L (skp T L (skp T L a + 1) + 1)
      have uL := u2 (by omega)
      have hn : ∀ i : Int, a ≤ i → i < skp T L (skp T L (skp T L a + 1) + 1) → T i ≠ 59 := by
        intro i p1 p2
        rcases Int.lt_or_le i (skp T L a + 1) with p | p
        · exact sk_no (by omega) hlt i p1 p
        · rcases Int.lt_or_le i (skp T L (skp T L a + 1) + 1) with p' | p'
          · exact sk_no (by omega) hlt2 i p p'
          · rw [u4 i p' p2]; decide
      unfold bodC
      have hC := condP_gd T L 6 (skp T L (skp T L (skp T L a + 1) + 1)) (by omega) uL
      have hS := sumP_gd T L 6 (skp T L (skp T L (skp T L a + 1) + 1)) (by omega) uL
      split
      · exact finC_gd h0 (by omega) q1 hn hC
      · split
        · rename_i q3
          have := hS.2 q3
          exact CGD.er h0 (by omega)
        · rename_i q3
          have q3 : (sumP T L 6 (skp T L (skp T L (skp T L a + 1) + 1))).1 = -1 := by omega
          obtain ⟨g1, g2, g3, g4, g5, g6, g7⟩ := (hS.1 q3).skp
          have g0 := (hS.1 q3).2.2.2.1
          obtain ⟨v1, -⟩ := skp_f T L (sumP T L 6 (skp T L (skp T L (skp T L a + 1) + 1))).2.1
          split
          · exact finC_gd h0 (by omega) q1 hn hC
          · refine ⟨fun _ => ⟨by show a < skp T L _; omega, g2, q1, ?_, en_mem (show 0 ≤ chr T L (skp T L a) ∧ chr T L (skp T L a) ≤ 9999 by omega) (fun x hx => ?_) (by omega) g5 (by omega), fun i q4 q5 => ?_, fun env _ => ⟨1, EV.num ⟨by omega, by omega⟩⟩, g7⟩, fun q => absurd rfl q⟩
            · rw [en_len]
              show ((([0, 1] : List Int).length : Nat) : Int) + ((sumP T L 6 (skp T L (skp T L (skp T L a + 1) + 1))).2.2.length : Int) + 3 ≤ 2 * (skp T L (sumP T L 6 (skp T L (skp T L (skp T L a + 1) + 1))).2.1 - a) + 1
              simp only [List.length_cons, List.length_nil]
              omega
            · rcases List.mem_cons.mp hx with q | q
              · omega
              · rw [List.mem_singleton.mp q]; omega
            · rcases Int.lt_or_le i (skp T L (skp T L (skp T L a + 1) + 1)) with p | p
              · exact hn i q4 p
              · exact g6 i p q5
theorem PS.shift {mem m mm : Int → Int → Int} {u d a lab : Int} {c : List Int} (h : PS mem m u (d + 3) 0 (okP a (lab :: c))) (h1 : ∀ b j : Int, ¬ (b = 35 ∧ j = 15) → b ≠ 40 → mm b j = m b j) (h2 : mm 35 15 = m 35 15 + 3) (h3 : ∀ j : Int, j ≤ mem 35 15 → mm 40 j = m 40 j) (h4 : mm 40 (mem 35 15 + 1) = 0 ∧ mm 40 (mem 35 15 + 2) = 1 ∧ mm 40 (mem 35 15 + 3) = 2) (h5 : ∀ j : Int, mem 35 15 + 1 ≤ j → j < m 35 15 → mm 40 (j + 3) = m 40 j) : PS mem mm u d 0 (okP a (lab :: 0 :: 1 :: 2 :: c)) := by
  obtain ⟨⟨f1, f2, f3, f4⟩, f5, f6, f7⟩ := h
  obtain ⟨g1, g2, g3, g4, g5, g6⟩ := f6 rfl
  have e12 := h1 35 12 (by decide) (by decide)
  have e13 := h1 35 13 (by decide) (by decide)
  have e14 := h1 35 14 (by decide) (by decide)
  have hlen : (((okP a (lab :: c)).2.2.length : Nat) : Int) = c.length + 1 := by show (((lab :: c).length : Nat) : Int) = _; rw [List.length_cons]; omega
  have hlen2 : (((okP a (lab :: 0 :: 1 :: 2 :: c)).2.2.length : Nat) : Int) = c.length + 4 := by show (((lab :: 0 :: 1 :: 2 :: c).length : Nat) : Int) = _; simp only [List.length_cons]; omega
  refine ⟨⟨fun b j q1 q2 => (h1 b j (by omega) q2).trans (f1 b j q1 q2), fun j q => (h3 j (by omega)).trans (f2 j q), by omega, by omega⟩, by omega, fun _ => ⟨by omega, by rw [e12]; exact g2, g3, by omega, by omega, ?_⟩, fun q => absurd rfl q⟩
  have hsg : ∀ (c : List Int) (b : Int), mem 35 15 + 1 ≤ b → b + c.length ≤ m 35 15 → SG (m 40) b c → SG (mm 40) (b + 3) c := by
    intro c
    induction c with
    | nil => intro b _ _ _; trivial
    | cons x c ih =>
      intro b q1 q2 q3
      rw [List.length_cons] at q2
      refine ⟨by rw [h5 b q1 (by omega)]; exact q3.1, ?_⟩
      have := ih (b + 1) (by omega) (by omega) q3.2
      rw [show b + 1 + 3 = b + 3 + 1 by omega] at this
      exact this
  have hs := hsg c (mem 35 15 + 1) (Int.le_refl _) (by omega) g6.2
  refine ⟨by rw [h3 _ (Int.le_refl _)]; exact g6.1, h4.1, ?_, ?_, ?_⟩
  · rw [show mem 35 15 + 1 + 1 = mem 35 15 + 2 by omega]; exact h4.2.1
  · rw [show mem 35 15 + 1 + 1 + 1 = mem 35 15 + 3 by omega]; exact h4.2.2
  · rw [show mem 35 15 + 1 + 1 + 1 + 1 = mem 35 15 + 1 + 3 by omega]; exact hs
/-! the clauses one behind the other -/
def contF (T : Int → Int) (L : Int) (k : Nat) (rr : PR) : PR :=
  if rr.1 ≠ -1 then erP rr.1 else if chr T L (skp T L rr.2.1) = 59 then clsL T L k (skp T L rr.2.1 + 1) rr.2.2 else if chr T L (skp T L rr.2.1) = -1 then okP (skp T L rr.2.1) rr.2.2 else erP (skp T L rr.2.1)
theorem clsL_s {T : Int → Int} {L : Int} {k : Nat} {a : Int} {c : List Int} : clsL T L (k + 1) a c = contF T L k (bnd (ecR (clP T L a)) (fun a' c' => okP a' (c ++ c'))) := by
  unfold contF
  rw [clsL]
  by_cases e : (clP T L a).1 = -1
  · rw [show ecR (clP T L a) = okP (clP T L a).2.1 (enC (clP T L a)) from if_pos e, bnd_ok, if_neg (by omega), if_neg (show ¬ (okP _ _).1 ≠ -1 from fun q => q rfl)]
    rfl
  · rw [show ecR (clP T L a) = erP (clP T L a).1 from if_neg e, bnd_er e, if_pos e, if_pos (show (erP _).1 ≠ -1 from e)]
    rfl
def FJ (T : Int → Int) (L : Int) (tg : PR) (k : Nat) (rr : PR) : Prop :=
  (rr.1 = -1 → 0 < rr.2.1 ∧ rr.2.1 ≤ L ∧ L - rr.2.1 < k) ∧ (rr.1 ≠ -1 → 0 ≤ rr.1 ∧ rr.1 ≤ L) ∧ contF T L k rr = tg
theorem ec_1 (r : CR) : (ecR r).1 = r.1 := by
  unfold ecR
  split
  · rename_i h; exact h.symm
  · rfl
theorem ec_2 {r : CR} (h : r.1 = -1) : (ecR r).2.1 = r.2.1 := by
  unfold ecR
  rw [if_pos h]
  rfl
theorem FJ.start {T : Int → Int} {L : Int} (h0 : 0 ≤ L) (hL : L < 199) : FJ T L (fauP T L) 199 (ecR (clP T L 0)) := by
  have hg := clP_gd T L (Int.le_refl 0) h0
  refine ⟨fun e => ?_, fun e => ?_, ?_⟩
  · rw [ec_1] at e
    rw [ec_2 e]
    have := hg.1 e
    omega
  · rw [ec_1] at e ⊢
    exact hg.2 e
  · unfold fauP
    rw [clsL_s]
    congr 1
    by_cases e : (ecR (clP T L 0)).1 = -1
    · rw [bnd_is e]
      generalize hq : ecR (clP T L 0) = q at *
      obtain ⟨a, b, c⟩ := q
      cases e
      rfl
    · rw [bnd_no e, ec_1]
      unfold ecR
      rw [if_neg (by rw [← ec_1]; exact e)]
theorem FJ.next {T : Int → Int} {L : Int} {tg rr : PR} {k : Nat} (h : FJ T L tg k rr) (e : rr.1 = -1) (hc : chr T L (skp T L rr.2.1) = 59) : 1 ≤ k ∧ skp T L rr.2.1 < L ∧ FJ T L tg (k - 1) (bnd (ecR (clP T L (skp T L rr.2.1 + 1))) (fun a' c' => okP a' (rr.2.2 ++ c'))) := by
  obtain ⟨g1, g2, g3⟩ := h
  obtain ⟨p1, p2, p3⟩ := g1 e
  obtain ⟨s1, -⟩ := skp_f T L rr.2.1
  have hlt : skp T L rr.2.1 < L := chr_lt T (by omega)
  have hg := clP_gd T L (a := skp T L rr.2.1 + 1) (by omega) (by omega)
  refine ⟨by omega, hlt, fun q => ?_, fun q => ?_, ?_⟩
  · by_cases e2 : (ecR (clP T L (skp T L rr.2.1 + 1))).1 = -1
    · rw [bnd_is e2]
      rw [ec_1] at e2
      have := hg.1 e2
      show 0 < (ecR _).2.1 ∧ (ecR _).2.1 ≤ L ∧ L - (ecR _).2.1 < _
      rw [ec_2 e2]
      omega
    · rw [bnd_no e2] at q
      exact absurd q e2
  · by_cases e2 : (ecR (clP T L (skp T L rr.2.1 + 1))).1 = -1
    · rw [bnd_is e2] at q
      exact absurd rfl q
    · rw [bnd_no e2]
      rw [ec_1] at e2
      have := hg.2 e2
      show 0 ≤ (ecR _).1 ∧ (ecR _).1 ≤ L
      rw [ec_1]
      omega
  · obtain ⟨k, rfl⟩ : ∃ j, k = j + 1 := ⟨k - 1, by omega⟩
    rw [← g3]
    show _ = contF T L (k + 1) rr
    unfold contF
    rw [if_neg (show ¬ rr.1 ≠ -1 from fun q => q e), if_pos hc, clsL_s]
    rfl
theorem FJ.fail {T : Int → Int} {L : Int} {tg rr : PR} {k : Nat} (h : FJ T L tg k rr) (e : rr.1 ≠ -1) : tg.1 = rr.1 := by
  rw [← h.2.2]
  unfold contF
  rw [if_pos e]
  rfl
theorem FJ.stop {T : Int → Int} {L : Int} {tg rr : PR} {k : Nat} (h : FJ T L tg k rr) (e : rr.1 = -1) (h1 : chr T L (skp T L rr.2.1) ≠ 59) : tg = if chr T L (skp T L rr.2.1) = -1 then okP (skp T L rr.2.1) rr.2.2 else erP (skp T L rr.2.1) := by
  rw [← h.2.2]
  unfold contF
  rw [if_neg (show ¬ rr.1 ≠ -1 from fun q => q e), if_neg h1]
def fzM (mem : Int → Int → Int) : Int → Int → Int := set2 (set2 (set2 (set2 mem 35 12 0) 35 13 (-1)) 35 14 0) 35 15 0
theorem fzM_txt (mem : Int → Int → Int) : fzM mem 39 = mem 39 ∧ fzM mem 35 11 = mem 35 11 ∧ fzM mem 35 12 = 0 ∧ fzM mem 35 13 = -1 ∧ fzM mem 35 14 = 0 ∧ fzM mem 35 15 = 0 := ⟨rfl, rfl, rfl, rfl, rfl, rfl⟩
theorem fzM_f (mem : Int → Int → Int) {a j : Int} (h : ¬ (a = 35 ∧ 12 ≤ j ∧ j ≤ 15)) : fzM mem a j = mem a j := by
  unfold fzM set2
  rw [if_neg (by omega), if_neg (by omega), if_neg (by omega), if_neg (by omega)]
abbrev FPS (mem mm : Int → Int → Int) : Prop := (∀ a j : Int, ¬ (a = 35 ∧ 12 ≤ j ∧ j ≤ 15) → a ≠ 40 → mm a j = mem a j) ∧ ((fauP (mem 39) (mem 35 11)).1 = -1 → mm 35 15 = (fauP (mem 39) (mem 35 11)).2.2.length ∧ mm 35 15 ≤ 340 ∧ SG (mm 40) 0 (fauP (mem 39) (mem 35 11)).2.2)
theorem PS.fps {mem mm : Int → Int → Int} {u d : Int} (h : PS (fzM mem) mm u d 0 (fauP (mem 39) (mem 35 11))) (hb : mm 35 15 ≤ 340) : FPS mem mm := by
  obtain ⟨⟨f1, f2, f3, f4⟩, f5, f6, f7⟩ := h
  refine ⟨fun a j q1 q2 => (f1 a j q1 q2).trans (fzM_f mem q1), fun q => ?_⟩
  obtain ⟨g1, g2, g3, g4, g5, g6⟩ := f6 q
  rw [(fzM_txt mem).2.2.2.2.2] at g5 g6
  exact ⟨by omega, hb, g6⟩
theorem PS.bdz {mem mm : Int → Int → Int} {u d e w : Int} {r : PR} (h : PS mem mm u d e r) (hP : PTX mem) (hC : PC mem w) (hu : 0 ≤ u ∧ u ≤ 7) (hr : r.1 ≠ -1 → 0 ≤ r.1 ∧ r.1 ≤ 200) : -1 ≤ mm 35 13 ∧ mm 35 13 ≤ 200 ∧ 0 ≤ mm 35 12 ∧ mm 35 12 ≤ 167 ∧ 0 ≤ mm 35 15 ∧ mm 35 15 + d ≤ 335 := by
  have h13 := h.w13
  obtain ⟨⟨f1, f2, f3, f4⟩, f5, f6, f7⟩ := h
  by_cases er : r.1 = -1
  · obtain ⟨g1, g2, g3, -⟩ := f6 er
    omega
  · obtain ⟨g1, g2⟩ := f7 er
    have := hr er
    omega
theorem c1_skp {T : Int → Int} {L : Int} {u : Nat} {r : PR} (h : r.1 = -1) : c1P T L u (okP (skp T L r.2.1) r.2.2) = c1P T L u r := by
  unfold c1P p1P
  congr 2
  rw [bnd_ok, bnd_is h]
  unfold cmpP
  rw [skp_skp]
theorem SG.move {f f' : Int → Int} : ∀ {c : List Int} {a b : Int}, SG f a c → (∀ j : Int, 0 ≤ j → j < c.length → f' (b + j) = f (a + j)) → SG f' b c := by
  intro c
  induction c with
  | nil => intro a b h he; trivial
  | cons x c ih =>
    intro a b h he
    rw [List.length_cons] at he
    refine ⟨?_, ih h.2 (fun j q1 q2 => ?_)⟩
    · have := he 0 (by omega) (by omega)
      rw [Int.add_zero, Int.add_zero] at this
      rw [this]
      exact h.1
    · have := he (j + 1) (by omega) (by omega)
      rw [show b + 1 + j = b + (j + 1) by omega, show a + 1 + j = a + (j + 1) by omega]
      exact this
abbrev FPF (mem mm : Int → Int → Int) : Prop := ∀ a j : Int, ¬ (a = 35 ∧ 12 ≤ j ∧ j ≤ 15) → a ≠ 40 → mm a j = mem a j
abbrev plnC (mem : Int → Int → Int) : Prop := mem 35 16 ≠ 12 ∧ (fauP (mem 39) (mem 35 11)).1 = -1
def PLM (mem mm : Int → Int → Int) (P : Int) (c : List Int) : Prop := (∀ a j : Int, ¬ (a = 35 ∧ 11 ≤ j ∧ j ≤ 16) → a ≠ 40 → ¬ (a = 41 ∧ 620 * P ≤ j ∧ j < 620 * P + 620) → ¬ (a = 42 ∧ j = P) → mm a j = mem a j) ∧ SG (mm 41) (620 * P) c ∧ mm 42 P = c.length ∧ (c.length : Int) ≤ 340 ∧ mm 35 11 = 0 ∧ mm 35 16 = P + 1
theorem fauP_b {T : Int → Int} {L : Int} (h0 : 0 ≤ L) (hL : L < 199) : -1 ≤ (fauP T L).1 ∧ (fauP T L).1 ≤ L := by
  have key : ∀ (k : Nat) (a : Int) (c : List Int), 0 ≤ a → a ≤ L → L - a < k → -1 ≤ (clsL T L k a c).1 ∧ (clsL T L k a c).1 ≤ L := by
    intro k
    induction k with
    | zero => intro a c h1 h2 h3; omega
    | succ k ih =>
      intro a c h1 h2 h3
      have hg := clP_gd T L h1 h2
      rw [clsL]
      split
      · rename_i q
        have := hg.2 q
        exact ⟨by show -1 ≤ (clP T L a).1; omega, by show (clP T L a).1 ≤ L; omega⟩
      · rename_i q
        have hh := hg.1 (by omega)
        obtain ⟨s1, s2, -⟩ := skp_f T L (clP T L a).2.1
        have s3 := s2 hh.2.1
        split
        · rename_i q2
          have : skp T L (clP T L a).2.1 < L := chr_lt T (by omega)
          exact ih _ _ (by omega) (by omega) (by omega)
        · split
          · exact ⟨Int.le_refl _, by show (-1 : Int) ≤ L; omega⟩
          · exact ⟨by show -1 ≤ skp T L (clP T L a).2.1; omega, s3⟩
  exact key 200 0 [] (Int.le_refl 0) h0 (by omega)
theorem fauP_in (T : Int → Int) (L : Int) (h0 : 0 ≤ L) (hL : L ≤ 160) : InI (fauP T L).1 := by
  have := fauP_b (T := T) h0 (by omega : L < 199)
  exact ⟨by omega, by omega⟩
theorem PLM.of {mem mb m3 : Int → Int → Int} (hfb : FPS mem mb) (hf1 : (fauP (mem 39) (mem 35 11)).1 = -1) (e16 : m3 35 16 = mem 35 16) (e15 : m3 35 15 = mb 35 15) (hfr : ∀ a j : Int, ¬ (a = 41 ∧ 620 * mem 35 16 ≤ j ∧ j < 620 * mem 35 16 + 620) → m3 a j = mb a j) (hcp : ∀ j : Int, 0 ≤ j → j < mb 35 15 → m3 41 (620 * mem 35 16 + j) = mb 40 j) : PLM mem (set2 (set2 (set2 m3 42 (m3 35 16) (m3 35 15)) 35 11 0) 35 16 (m3 35 16 + 1)) (mem 35 16) (fauP (mem 39) (mem 35 11)).2.2 := by
  obtain ⟨hl15, hlb, hsg⟩ := hfb.2 hf1
  refine ⟨fun a j q1 q2 q3 q4 => ?_, ?_, ?_, by omega, ?_, ?_⟩
  · have h1 : ¬ (a = 35 ∧ j = 16) := by omega
    have h2 : ¬ (a = 35 ∧ j = 11) := by omega
    have h3 : ¬ (a = 42 ∧ j = m3 35 16) := by rw [e16]; exact q4
    unfold set2
    rw [if_neg h1, if_neg h2, if_neg h3]
    exact (hfr a j q3).trans (hfb.1 a j (by omega) q2)
  · refine hsg.move (fun j q1 q2 => ?_)
    rw [s2_a (by decide), s2_a (by decide), s2_a (by decide), hcp j q1 (by omega), Int.zero_add]
  · rw [s2_a (by decide), s2_a (by decide), ← e16, s2_s]; omega
  · rw [s2_k (by decide), s2_s]
  · rw [s2_s]; omega
set_option maxHeartbeats 4000000 in
set_option maxRecDepth 100000 in
theorem c_X12_clause {l : Launch} {g : GP} (hG : GH g) {kd : Int → Nat} {ln : Int → Int} {mem : Int → Int → Int} {sz : Nat} (hS : SK kd ln) (hR : SR mem) (hPT : PTX mem) (hPC : PC mem ((6 : Nat) : Int)) : MT l g yX12_clause cX12_clause 6 none (27) 0 0 [(2, 35)] kd ln mem sz (pMV (fun mem' => SR mem' ∧ (PS mem mem' 6 (-1) 0 (ecR (clP (mem 39) (mem 35 11) (mem 35 12))))) kd ln sz) := by
  refine MT_of hG (by decide +kernel) (Nat.le_of_ble_eq_true rfl) (fun z hF hr hn => ?_)
  obtain ⟨pw, pa0, paL, pd, ps0, ps1, pu0, pu6⟩ := id hPC
  have hPT1 := hPT.2.1
  refine jblk hF [(.aload_n 0, 1)] (by decide +kernel) (pc' := 1) (lo' := [(0, (2, 35))]) (st' := [(2, 35)]) rfl ?_
  refine jcallV hF (c_X12_look hG hS hR (by first | exact hPT | assumption) (by omega)) MW_X12_look 13 (by decide) (by exact hS.k35) wd_1829 wd_1831 wd_p55 (by decide +kernel) [] rfl rfl (rmI (by omega) (by decide)) (Nat.le_of_ble_eq_true rfl) ⟨Nat.le_of_ble_eq_true rfl, Nat.le_of_ble_eq_true rfl⟩ (kMR (fun v_3 m_1 h_2 => ?_))
  obtain ⟨hR_m_1, h_2⟩ := h_2
  obtain ⟨hv, hl⟩ := h_2
  have hA := (PS.rf (u := 0) hPC).look (by omega) hl
  rw [bnd_ok] at hA
  have hsk := skp_f (mem 39) (mem 35 11) (mem 35 12)
  have hskL := hsk.2.1 paL
  have l13 := hl.1 35 13 (by decide)
  have l14 := hl.1 35 14 (by decide)
  have l15 := hl.1 35 15 (by decide)
  have l12 := hl.2
  have hcb : -1 ≤ v_3 ∧ v_3 ≤ 255 := by rw [hv]; unfold chr; split; (have := hPT.2.2 _ (by omega : 0 ≤ skp (mem 39) (mem 35 11) (mem 35 12)) (by omega); omega); omega
  refine jblk hF [(.istore_n 1, 1), (.iload_n 1, 1), (.iconst (-1), 1)] (by decide +kernel) (pc' := 7) (lo' := [(1, (0, v_3)), (0, (2, 35))]) (st' := [(0, (-1)), (0, v_3)]) rfl ?_
  refine jicmp_eq hF (off := 10) 17 (by decide +kernel) (by decide) (by omega) (by decide) (fun h_4 => ?_) (fun h_4 => ?_)
  · refine jblk hF [(.aload_n 0, 1)] (by decide +kernel) (pc' := 18) (lo' := [(1, (0, v_3)), (0, (2, 35))]) (st' := [(2, 35)]) rfl ?_
    refine jcallV hF (c_X12_bad hG hS hR_m_1 (by omega)) MW_X12_bad 13 (by decide) (by exact hS.k35) wd_1836 wd_1838 wd_p56 (by decide +kernel) [] rfl rfl (rmI (by omega) (by decide)) (Nat.le_of_ble_eq_true rfl) ⟨Nat.le_of_ble_eq_true rfl, Nat.le_of_ble_eq_true rfl⟩ (kMV (fun m_5 h_6 => ?_))
    obtain ⟨hR_m_5, h_6⟩ := h_6
    have hbb := h_6.1 (by omega)
    refine jvret hF hr (by decide +kernel) ?_
    exact lMV ⟨hR_m_5, by (rw [show clP (mem 39) (mem 35 11) (mem 35 12) = erC (skp (mem 39) (mem 35 11) (mem 35 12)) from if_pos (by rw [← hv]; omega), ec_er (by omega), hbb]; exact (hA.bad (by omega) (by omega)).weak (by omega) (by omega))⟩
  · refine jblk hF [(.iload_n 1, 1)] (by decide +kernel) (pc' := 11) (lo' := [(1, (0, v_3)), (0, (2, 35))]) (st' := [(0, v_3)]) rfl ?_
    refine jcallS hF (c_X12_isLabel hG v_3 (by omega)) MW_X12_isLabel wd_1833 wd_1834 (by decide +kernel) [] rfl rfl (rmI (by omega) (by decide)) (Nat.le_of_ble_eq_true rfl) ⟨Nat.le_of_ble_eq_true rfl, Nat.le_of_ble_eq_true rfl⟩ (kB (fun h_7 => ?_) (fun h_7 => ?_))
    · refine jif_ne hF (off := 8) 22 (by decide +kernel) (by decide) (by decide) (fun _ => ?_) (fun h => absurd h (by decide))
      have hV := hA.adv (chr_lt (mem 39) (by omega))
      refine jblk hF [(.aload_n 0, 1), (.dup, 1)] (by decide +kernel) (pc' := 24) (lo' := [(1, (0, v_3)), (0, (2, 35))]) (st' := [(2, 35), (2, 35)]) rfl ?_
      refine jget hF 13 12 0 12 rfl (by decide) (by decide) rfl wd_1475 (by decide +kernel) (by exact hS.k35) ?_
      refine jblk hF [(.iconst 1, 1), (.iadd, 1)] (by decide +kernel) (pc' := 29) (lo' := [(1, (0, v_3)), (0, (2, 35))]) (st' := [(0, (m_1 35 12) + 1), (2, 35)]) rfl ?_
      refine jput hF 13 12 0 12 rfl (by decide) (by decide) rfl wd_1475 (by decide +kernel) rfl (Or.inl rfl) (by exact hS.k35) (fun h => by cases h) ?_
      obtain ⟨o39, o11⟩ := hV.txt
      have o12 : (set2 m_1 35 12 ((m_1 35 12) + 1)) 35 12 = skp (mem 39) (mem 35 11) (mem 35 12) + 1 := (hV.2.2.1 rfl).2.1
      have oPT := hV.ptx hPT
      have hVb := hV.bdz hPT hPC (by omega) (fun q => absurd rfl q)
      refine jblk hF [(.aload_n 0, 1)] (by decide +kernel) (pc' := 33) (lo' := [(1, (0, v_3)), (0, (2, 35))]) (st' := [(2, 35)]) rfl ?_
      refine jcallV hF (c_X12_look hG hS (SR.s hR_m_1 (Or.inr (by decide))) (by first | exact hPT | assumption) (by omega)) MW_X12_look 13 (by decide) (by exact hS.k35) wd_1829 wd_1831 wd_p55 (by decide +kernel) [] rfl rfl (rmI (by omega) (by decide)) (Nat.le_of_ble_eq_true rfl) ⟨Nat.le_of_ble_eq_true rfl, Nat.le_of_ble_eq_true rfl⟩ (kMR (fun v_11 m_9 h_10 => ?_))
      obtain ⟨hR_m_9, h_10⟩ := h_10
      obtain ⟨hv2, hl2⟩ := h_10
      have h2 := hV.look (by omega) hl2
      rw [bnd_ok] at h2
      have l132 : m_9 35 13 = -1 := h2.w13
      rw [o39, o11, o12] at hv2
      have hsk2 := skp_f (mem 39) (mem 35 11) (skp (mem 39) (mem 35 11) (mem 35 12) + 1)
      have hcb2 : -1 ≤ v_11 ∧ v_11 ≤ 255 := by rw [hv2]; unfold chr; split; (have := hPT.2.2 _ (by omega : 0 ≤ skp (mem 39) (mem 35 11) (skp (mem 39) (mem 35 11) (mem 35 12) + 1)) (by omega); omega); omega
      refine jblk hF [(.bipush 58, 2)] (by decide +kernel) (pc' := 38) (lo' := [(1, (0, v_3)), (0, (2, 35))]) (st' := [(0, 58), (0, v_11)]) rfl ?_
      refine jicmp_eq hF (off := 8) 46 (by decide +kernel) (by decide) (by omega) (by decide) (fun h_12 => ?_) (fun h_12 => ?_)
      · have hV2 := h2.adv (chr_lt (mem 39) (by omega))
        have hcl : clP (mem 39) (mem 35 11) (mem 35 12) = bodC (mem 39) (mem 35 11) (chr (mem 39) (mem 35 11) (skp (mem 39) (mem 35 11) (mem 35 12))) (skp (mem 39) (mem 35 11) (skp (mem 39) (mem 35 11) (skp (mem 39) (mem 35 11) (mem 35 12) + 1) + 1)) := by unfold clP; rw [if_neg (show ¬ ¬ isLb (chr (mem 39) (mem 35 11) (skp (mem 39) (mem 35 11) (mem 35 12))) by rw [← hv]; omega), if_neg (show ¬ chr (mem 39) (mem 35 11) (skp (mem 39) (mem 35 11) (skp (mem 39) (mem 35 11) (mem 35 12) + 1)) ≠ 58 by rw [← hv2]; omega)]
        have hS2L := hsk2.2.1 (by have := chr_lt (L := (mem 35 11)) (a := skp (mem 39) (mem 35 11) (mem 35 12)) (mem 39) (by omega); omega)
        refine jblk hF [(.aload_n 0, 1), (.dup, 1)] (by decide +kernel) (pc' := 48) (lo' := [(1, (0, v_3)), (0, (2, 35))]) (st' := [(2, 35), (2, 35)]) rfl ?_
        refine jget hF 13 12 0 12 rfl (by decide) (by decide) rfl wd_1475 (by decide +kernel) (by exact hS.k35) ?_
        refine jblk hF [(.iconst 1, 1), (.iadd, 1)] (by decide +kernel) (pc' := 53) (lo' := [(1, (0, v_3)), (0, (2, 35))]) (st' := [(0, (m_9 35 12) + 1), (2, 35)]) rfl ?_
        refine jput hF 13 12 0 12 rfl (by decide) (by decide) rfl wd_1475 (by decide +kernel) rfl (Or.inl rfl) (by exact hS.k35) (fun h => by cases h) ?_
        have hV2b := hV2.bdz hPT hPC (by omega) (fun q => absurd rfl q)
        refine jblk hF [(.aload_n 0, 1), (.iload_n 1, 1)] (by decide +kernel) (pc' := 58) (lo' := [(1, (0, v_3)), (0, (2, 35))]) (st' := [(0, v_3), (2, 35)]) rfl ?_
        refine jcallV hF (c_X12_say hG hS (SR.s hR_m_9 (Or.inr (by decide))) v_3 (by omega)) MW_X12_say 13 (by decide) (by exact hS.k35) wd_1840 wd_1842 wd_p57 (by decide +kernel) [] rfl rfl (rmI (by omega) (by decide)) (Nat.le_of_ble_eq_true rfl) ⟨Nat.le_of_ble_eq_true rfl, Nat.le_of_ble_eq_true rfl⟩ (kMV (fun m_13 h_14 => ?_))
        obtain ⟨hR_m_13, h_14⟩ := h_14
        have hS1 := (hV2.weak (u' := 6) (d' := 3 + 1) (by omega) (by omega)).say v_3
        rw [← h_14, bnd_ok] at hS1
        have hS1b := hS1.bdz hPT hPC (by omega) (fun q => absurd rfl q)
        obtain ⟨p39, p11⟩ := hS1.txt
        have p12 : m_13 35 12 = skp (mem 39) (mem 35 11) (skp (mem 39) (mem 35 11) (mem 35 12) + 1) + 1 := (hS1.2.2.1 rfl).2.1
        have pPT := hS1.ptx hPT
        refine jblk hF [(.aload_n 0, 1)] (by decide +kernel) (pc' := 62) (lo' := [(1, (0, v_3)), (0, (2, 35))]) (st' := [(2, 35)]) rfl ?_
        refine jcallV hF (c_X12_look hG hS hR_m_13 (by first | exact hPT | assumption) (by omega)) MW_X12_look 13 (by decide) (by exact hS.k35) wd_1829 wd_1831 wd_p55 (by decide +kernel) [] rfl rfl (rmI (by omega) (by decide)) (Nat.le_of_ble_eq_true rfl) ⟨Nat.le_of_ble_eq_true rfl, Nat.le_of_ble_eq_true rfl⟩ (kMR (fun v_17 m_15 h_16 => ?_))
        obtain ⟨hR_m_15, h_16⟩ := h_16
        obtain ⟨hv3, hl3⟩ := h_16
        have h3 := hS1.look (by omega) hl3
        rw [bnd_ok] at h3
        have l133 : m_15 35 13 = -1 := h3.w13
        rw [p39, p11, p12] at hv3
        have hsk3 := skp_f (mem 39) (mem 35 11) (skp (mem 39) (mem 35 11) (skp (mem 39) (mem 35 11) (mem 35 12) + 1) + 1)
        have hcb3 : -1 ≤ v_17 ∧ v_17 ≤ 255 := by rw [hv3]; unfold chr; split; (have := hPT.2.2 _ (by omega : 0 ≤ skp (mem 39) (mem 35 11) (skp (mem 39) (mem 35 11) (skp (mem 39) (mem 35 11) (mem 35 12) + 1) + 1)) (by omega); omega); omega
        have hS3L := hsk3.2.1 (by have := chr_lt (L := mem 35 11) (a := skp (mem 39) (mem 35 11) (skp (mem 39) (mem 35 11) (mem 35 12) + 1)) (mem 39) (by omega); omega)
        obtain ⟨mc, hmc⟩ : ∃ mc : Int → Int → Int, mc = m_15 := ⟨_, rfl⟩
        have h3c := h3
        rw [← hmc] at h3c
        obtain ⟨c39, c11⟩ := h3c.txt
        have c12 : mc 35 12 = skp (mem 39) (mem 35 11) (skp (mem 39) (mem 35 11) (skp (mem 39) (mem 35 11) (mem 35 12) + 1) + 1) := (h3c.2.2.1 rfl).2.1
        have cPT := h3c.ptx hPT
        have cPC : PC mc ((6 : Nat) : Int) := h3c.pc rfl hPC (by omega) (by omega) (by omega)
        have dPT := h3.ptx hPT
        have dPC : PC m_15 ((6 : Nat) : Int) := h3.pc rfl hPC (by omega) (by omega) (by omega)
        have hgS := sumP_gd (mem 39) (mem 35 11) 6 (skp (mem 39) (mem 35 11) (skp (mem 39) (mem 35 11) (skp (mem 39) (mem 35 11) (mem 35 12) + 1) + 1)) (by omega) hS3L
        have hgC := condP_gd (mem 39) (mem 35 11) 6 (skp (mem 39) (mem 35 11) (skp (mem 39) (mem 35 11) (skp (mem 39) (mem 35 11) (mem 35 12) + 1) + 1)) (by omega) hS3L
        have hfr0 : m_15 35 15 = mem 35 15 + 1 := (h3.2.2.1 rfl).2.2.2.2.1
        refine jblk hF [(.istore_n 2, 1), (.iload_n 2, 1), (.bipush 33, 2)] (by decide +kernel) (pc' := 69) (lo' := [(2, (0, v_17)), (1, (0, v_3)), (0, (2, 35))]) (st' := [(0, 33), (0, v_17)]) rfl ?_
        refine jicmp_eq hF (off := 13) 82 (by decide +kernel) (by decide) (by omega) (by decide) (fun h_18 => ?_) (fun h_18 => ?_)
        · refine jblk hF [(.iconst 0, 1), (.istore_n 3, 1), (.aload_n 0, 1)] (by decide +kernel) (pc' := 85) (lo' := [(3, (0, 0)), (2, (0, v_17)), (1, (0, v_3)), (0, (2, 35))]) (st' := [(2, 35)]) rfl ?_
          refine jget hF 13 15 0 15 rfl (by decide) (by decide) rfl wd_1478 (by decide +kernel) (by exact hS.k35) ?_
          refine jblk hF [(.istore 4, 2), (.iload_n 3, 1)] (by decide +kernel) (pc' := 91) (lo' := [(4, (0, m_15 35 15)), (3, (0, 0)), (2, (0, v_17)), (1, (0, v_3)), (0, (2, 35))]) (st' := [(0, 0)]) rfl ?_
          refine jif_eq hF (off := 107) 198 (by decide +kernel) (by decide) (by decide) (fun _ => ?_) (fun h => absurd h (by decide))
          refine jblk hF [(.aload_n 0, 1), (.iload_n 3, 1)] (by decide +kernel) (pc' := 200) (lo' := [(4, (0, m_15 35 15)), (3, (0, 0)), (2, (0, v_17)), (1, (0, v_3)), (0, (2, 35))]) (st' := [(0, 0), (2, 35)]) rfl ?_
          refine jcallV hF (c_X12_cond0 hG hS hR_m_15 0 rfl 6 (by assumption) (by assumption) (c_X12_unitA hG hS 6)) MW_X12_condition 13 (by decide) (by exact hS.k35) wd_1874 wd_1876 wd_p64 (by decide +kernel) [] rfl rfl (rmI (by omega) (by decide)) (Nat.le_of_ble_eq_true rfl) ⟨Nat.le_of_ble_eq_true rfl, Nat.le_of_ble_eq_true rfl⟩ (kMV (fun m_20 h_21 => ?_))
          obtain ⟨hR_m_20, h_21⟩ := h_21
          have hE : PS mc m_20 6 0 0 (condP (mem 39) (mem 35 11) 6 (skp (mem 39) (mem 35 11) (skp (mem 39) (mem 35 11) (skp (mem 39) (mem 35 11) (mem 35 12) + 1) + 1))) := by
            first
            | (have h9 := h_21; rw [← hmc, c39, c11, c12] at h9; exact h9)
            | (have h9 := h_21; rw [c39, c11, c1_skp hsr, ← cond_c1 (skp_skp _ _ _) (by rw [← hv3]; omega) (by rw [← hv3]; omega)] at h9; exact h9)
          have hcf : clP (mem 39) (mem 35 11) (mem 35 12) = finC (mem 39) (mem 35 11) (chr (mem 39) (mem 35 11) (skp (mem 39) (mem 35 11) (mem 35 12))) (condP (mem 39) (mem 35 11) 6 (skp (mem 39) (mem 35 11) (skp (mem 39) (mem 35 11) (skp (mem 39) (mem 35 11) (mem 35 12) + 1) + 1))) := by
            rw [hcl]
            unfold bodC
            first
            | (rw [if_pos (show chr (mem 39) (mem 35 11) (skp (mem 39) (mem 35 11) (skp (mem 39) (mem 35 11) (skp (mem 39) (mem 35 11) (mem 35 12) + 1) + 1)) = 33 ∨ chr (mem 39) (mem 35 11) (skp (mem 39) (mem 35 11) (skp (mem 39) (mem 35 11) (skp (mem 39) (mem 35 11) (mem 35 12) + 1) + 1)) = 40 by rw [← hv3]; omega)]; done)
            | (rw [if_neg (show ¬ (chr (mem 39) (mem 35 11) (skp (mem 39) (mem 35 11) (skp (mem 39) (mem 35 11) (skp (mem 39) (mem 35 11) (mem 35 12) + 1) + 1)) = 33 ∨ chr (mem 39) (mem 35 11) (skp (mem 39) (mem 35 11) (skp (mem 39) (mem 35 11) (skp (mem 39) (mem 35 11) (mem 35 12) + 1) + 1)) = 40) by rw [← hv3]; omega), if_neg (show ¬ (sumP (mem 39) (mem 35 11) 6 (skp (mem 39) (mem 35 11) (skp (mem 39) (mem 35 11) (skp (mem 39) (mem 35 11) (mem 35 12) + 1) + 1))).1 ≠ -1 by omega), if_pos (show isSg (chr (mem 39) (mem 35 11) (skp (mem 39) (mem 35 11) (sumP (mem 39) (mem 35 11) 6 (skp (mem 39) (mem 35 11) (skp (mem 39) (mem 35 11) (skp (mem 39) (mem 35 11) (mem 35 12) + 1) + 1))).2.1)) by rw [← hv4]; assumption)]; done)
          have hF2 := h3c.call rfl hE
          have hF13 : m_20 35 13 = (condP (mem 39) (mem 35 11) 6 (skp (mem 39) (mem 35 11) (skp (mem 39) (mem 35 11) (skp (mem 39) (mem 35 11) (mem 35 12) + 1) + 1))).1 := by rw [hF2.w13, app_er]
          have hFb := hF2.bdz hPT hPC (by omega) (fun q => by rw [app_er] at q ⊢; exact hgC.b200 (by omega) (by omega) q)
          have fPT := hF2.ptx hPT
          refine jblk hF [(.aload_n 0, 1)] (by decide +kernel) (pc' := 204) (lo' := [(4, (0, m_15 35 15)), (3, (0, 0)), (2, (0, v_17)), (1, (0, v_3)), (0, (2, 35))]) (st' := [(2, 35)]) rfl ?_
          refine jget hF 13 13 0 13 rfl (by decide) (by decide) rfl wd_1476 (by decide +kernel) (by exact hS.k35) ?_
          refine jblk hF [(.iconst (-1), 1)] (by decide +kernel) (pc' := 208) (lo' := [(4, (0, m_15 35 15)), (3, (0, 0)), (2, (0, v_17)), (1, (0, v_3)), (0, (2, 35))]) (st' := [(0, (-1)), (0, m_20 35 13)]) rfl ?_
          refine jicmp_ne hF (off := 16) 224 (by decide +kernel) (by decide) (by omega) (by decide) (fun h_22 => ?_) (fun h_22 => ?_)
          · refine jblk hF [(.aload_n 0, 1)] (by decide +kernel) (pc' := 225) (lo' := [(4, (0, m_15 35 15)), (3, (0, 0)), (2, (0, v_17)), (1, (0, v_3)), (0, (2, 35))]) (st' := [(2, 35)]) rfl ?_
            refine jget hF 13 13 0 13 rfl (by decide) (by decide) rfl wd_1476 (by decide +kernel) (by exact hS.k35) ?_
            refine jblk hF [(.iconst (-1), 1)] (by decide +kernel) (pc' := 229) (lo' := [(4, (0, m_15 35 15)), (3, (0, 0)), (2, (0, v_17)), (1, (0, v_3)), (0, (2, 35))]) (st' := [(0, (-1)), (0, m_20 35 13)]) rfl ?_
            refine jicmp_eq hF (off := 4) 233 (by decide +kernel) (by decide) (by omega) (by decide) (fun h_23 => ?_) (fun h_23 => ?_)
            · exfalso; omega
            · refine jvret hF hr (by decide +kernel) ?_
              exact lMV ⟨hR_m_20, by first | (exfalso; omega) | (rw [hcf]; unfold finC; rw [if_pos (show (condP (mem 39) (mem 35 11) 6 (skp (mem 39) (mem 35 11) (skp (mem 39) (mem 35 11) (skp (mem 39) (mem 35 11) (mem 35 12) + 1) + 1))).1 ≠ -1 by omega), ec_er (by omega)]; exact (hF2.er (by rw [app_er]; omega) (by rw [app_er]; rfl)).weak (by omega) (by omega)) | (rw [hcf]; unfold finC; rw [if_neg (show ¬ (condP (mem 39) (mem 35 11) 6 (skp (mem 39) (mem 35 11) (skp (mem 39) (mem 35 11) (skp (mem 39) (mem 35 11) (mem 35 12) + 1) + 1))).1 ≠ -1 by omega), if_pos (show chr (mem 39) (mem 35 11) (skp (mem 39) (mem 35 11) (condP (mem 39) (mem 35 11) 6 (skp (mem 39) (mem 35 11) (skp (mem 39) (mem 35 11) (skp (mem 39) (mem 35 11) (mem 35 12) + 1) + 1))).2.1) ≠ 63 by rw [← hv5]; omega), ec_er (by omega), hbb5]; exact (h5.bad (by omega) (by omega)).weak (by omega) (by omega))⟩
          · have hcr : (condP (mem 39) (mem 35 11) 6 (skp (mem 39) (mem 35 11) (skp (mem 39) (mem 35 11) (skp (mem 39) (mem 35 11) (mem 35 12) + 1) + 1))).1 = -1 := by omega
            have hF3 := hF2
            rw [bnd_is hcr] at hF3
            obtain ⟨f39, f11⟩ := hF2.txt
            have f12 : m_20 35 12 = (condP (mem 39) (mem 35 11) 6 (skp (mem 39) (mem 35 11) (skp (mem 39) (mem 35 11) (skp (mem 39) (mem 35 11) (mem 35 12) + 1) + 1))).2.1 := (hF3.2.2.1 rfl).2.1
            have hg5 := (hgC.1 hcr).1
            have hgL5 := (hgC.1 hcr).2.1
            refine jblk hF [(.aload_n 0, 1)] (by decide +kernel) (pc' := 212) (lo' := [(4, (0, m_15 35 15)), (3, (0, 0)), (2, (0, v_17)), (1, (0, v_3)), (0, (2, 35))]) (st' := [(2, 35)]) rfl ?_
            refine jcallV hF (c_X12_look hG hS hR_m_20 (by first | exact hPT | assumption) (by omega)) MW_X12_look 13 (by decide) (by exact hS.k35) wd_1829 wd_1831 wd_p55 (by decide +kernel) [] rfl rfl (rmI (by omega) (by decide)) (Nat.le_of_ble_eq_true rfl) ⟨Nat.le_of_ble_eq_true rfl, Nat.le_of_ble_eq_true rfl⟩ (kMR (fun v_26 m_24 h_25 => ?_))
            obtain ⟨hR_m_24, h_25⟩ := h_25
            obtain ⟨hv5, hl5⟩ := h_25
            have h5 := hF3.look (by omega) hl5
            rw [bnd_ok] at h5
            have l135 : m_24 35 13 = -1 := h5.w13
            rw [f39, f11, f12] at hv5
            have hsk5 := skp_f (mem 39) (mem 35 11) ((condP (mem 39) (mem 35 11) 6 (skp (mem 39) (mem 35 11) (skp (mem 39) (mem 35 11) (skp (mem 39) (mem 35 11) (mem 35 12) + 1) + 1))).2.1)
            have hcb5 : -1 ≤ v_26 ∧ v_26 ≤ 255 := by rw [hv5]; unfold chr; split; (have := hPT.2.2 _ (by omega : 0 ≤ skp (mem 39) (mem 35 11) (condP (mem 39) (mem 35 11) 6 (skp (mem 39) (mem 35 11) (skp (mem 39) (mem 35 11) (skp (mem 39) (mem 35 11) (mem 35 12) + 1) + 1))).2.1) (by omega); omega); omega
            have hS5L := hsk5.2.1 hgL5
            refine jblk hF [(.bipush 63, 2)] (by decide +kernel) (pc' := 217) (lo' := [(4, (0, m_15 35 15)), (3, (0, 0)), (2, (0, v_17)), (1, (0, v_3)), (0, (2, 35))]) (st' := [(0, 63), (0, v_26)]) rfl ?_
            refine jicmp_eq hF (off := 7) 224 (by decide +kernel) (by decide) (by omega) (by decide) (fun h_27 => ?_) (fun h_27 => ?_)
            · refine jblk hF [(.aload_n 0, 1)] (by decide +kernel) (pc' := 225) (lo' := [(4, (0, m_15 35 15)), (3, (0, 0)), (2, (0, v_17)), (1, (0, v_3)), (0, (2, 35))]) (st' := [(2, 35)]) rfl ?_
              refine jget hF 13 13 0 13 rfl (by decide) (by decide) rfl wd_1476 (by decide +kernel) (by exact hS.k35) ?_
              refine jblk hF [(.iconst (-1), 1)] (by decide +kernel) (pc' := 229) (lo' := [(4, (0, m_15 35 15)), (3, (0, 0)), (2, (0, v_17)), (1, (0, v_3)), (0, (2, 35))]) (st' := [(0, (-1)), (0, m_24 35 13)]) rfl ?_
              refine jicmp_eq hF (off := 4) 233 (by decide +kernel) (by decide) (by omega) (by decide) (fun h_28 => ?_) (fun h_28 => ?_)
              · have hV5 := h5.adv (chr_lt (mem 39) (by omega))
                refine jblk hF [(.aload_n 0, 1), (.dup, 1)] (by decide +kernel) (pc' := 235) (lo' := [(4, (0, m_15 35 15)), (3, (0, 0)), (2, (0, v_17)), (1, (0, v_3)), (0, (2, 35))]) (st' := [(2, 35), (2, 35)]) rfl ?_
                refine jget hF 13 12 0 12 rfl (by decide) (by decide) rfl wd_1475 (by decide +kernel) (by exact hS.k35) ?_
                refine jblk hF [(.iconst 1, 1), (.iadd, 1)] (by decide +kernel) (pc' := 240) (lo' := [(4, (0, m_15 35 15)), (3, (0, 0)), (2, (0, v_17)), (1, (0, v_3)), (0, (2, 35))]) (st' := [(0, (m_24 35 12) + 1), (2, 35)]) rfl ?_
                refine jput hF 13 12 0 12 rfl (by decide) (by decide) rfl wd_1475 (by decide +kernel) rfl (Or.inl rfl) (by exact hS.k35) (fun h => by cases h) ?_
                have hV5b := hV5.bdz hPT hPC (by omega) (fun q => absurd rfl q)
                refine jblk hF [(.aload_n 0, 1), (.iconst 2, 1)] (by decide +kernel) (pc' := 245) (lo' := [(4, (0, m_15 35 15)), (3, (0, 0)), (2, (0, v_17)), (1, (0, v_3)), (0, (2, 35))]) (st' := [(0, 2), (2, 35)]) rfl ?_
                refine jcallV hF (c_X12_say hG hS (SR.s hR_m_24 (Or.inr (by decide))) 2 (by omega)) MW_X12_say 13 (by decide) (by exact hS.k35) wd_1840 wd_1842 wd_p57 (by decide +kernel) [] rfl rfl (rmI (by omega) (by decide)) (Nat.le_of_ble_eq_true rfl) ⟨Nat.le_of_ble_eq_true rfl, Nat.le_of_ble_eq_true rfl⟩ (kMV (fun m_29 h_30 => ?_))
                obtain ⟨hR_m_29, h_30⟩ := h_30
                have hS5 := (hV5.weak (d' := 0 + 1) (by omega) (by omega)).say 2
                rw [← h_30, bnd_ok] at hS5
                obtain ⟨k39, k11⟩ := hS5.txt
                have k12 : m_29 35 12 = skp (mem 39) (mem 35 11) (condP (mem 39) (mem 35 11) 6 (skp (mem 39) (mem 35 11) (skp (mem 39) (mem 35 11) (skp (mem 39) (mem 35 11) (mem 35 12) + 1) + 1))).2.1 + 1 := (hS5.2.2.1 rfl).2.1
                have kPT := hS5.ptx hPT
                have kPC : PC m_29 ((6 : Nat) : Int) := hS5.pc rfl hPC (by omega) (by omega) (by omega)
                refine jblk hF [(.aload_n 0, 1)] (by decide +kernel) (pc' := 249) (lo' := [(4, (0, m_15 35 15)), (3, (0, 0)), (2, (0, v_17)), (1, (0, v_3)), (0, (2, 35))]) (st' := [(2, 35)]) rfl ?_
                refine jcallV hF (c_X12_sumA hG hS 6 _ hR_m_29 (by assumption) (by assumption)) MW_X12_sum 13 (by decide) (by exact hS.k35) wd_1844 wd_1846 wd_p58 (by decide +kernel) [] rfl rfl (rmI (by omega) (by decide)) (Nat.le_of_ble_eq_true rfl) ⟨Nat.le_of_ble_eq_true rfl, Nat.le_of_ble_eq_true rfl⟩ (kMV (fun m_31 h_32 => ?_))
                obtain ⟨hR_m_31, h_32⟩ := h_32
                have hC6 := hS5.call rfl h_32
                rw [k39, k11, k12] at hC6
                have hgV := sumP_gd (mem 39) (mem 35 11) 6 (skp (mem 39) (mem 35 11) (condP (mem 39) (mem 35 11) 6 (skp (mem 39) (mem 35 11) (skp (mem 39) (mem 35 11) (skp (mem 39) (mem 35 11) (mem 35 12) + 1) + 1))).2.1 + 1) (by omega) (by have := chr_lt (L := (mem 35 11)) (a := skp (mem 39) (mem 35 11) (condP (mem 39) (mem 35 11) 6 (skp (mem 39) (mem 35 11) (skp (mem 39) (mem 35 11) (skp (mem 39) (mem 35 11) (mem 35 12) + 1) + 1))).2.1) (mem 39) (by omega); omega)
                have hCb6 := hC6.bdz hPT hPC (by omega) (fun q => by rw [app_er] at q ⊢; exact hgV.b200 (by omega) (by omega) q)
                refine jblk hF [(.aload_n 0, 1), (.iconst 3, 1)] (by decide +kernel) (pc' := 254) (lo' := [(4, (0, m_15 35 15)), (3, (0, 0)), (2, (0, v_17)), (1, (0, v_3)), (0, (2, 35))]) (st' := [(0, 3), (2, 35)]) rfl ?_
                refine jcallV hF (c_X12_say hG hS hR_m_31 3 (by omega)) MW_X12_say 13 (by decide) (by exact hS.k35) wd_1840 wd_1842 wd_p57 (by decide +kernel) [] rfl rfl (rmI (by omega) (by decide)) (Nat.le_of_ble_eq_true rfl) ⟨Nat.le_of_ble_eq_true rfl, Nat.le_of_ble_eq_true rfl⟩ (kMV (fun m_33 h_34 => ?_))
                obtain ⟨hR_m_33, h_34⟩ := h_34
                have hS6 := (hC6.weak (d' := -1 + 1) (Int.le_refl _) (by omega)).say 3
                rw [← h_34, app_say] at hS6
                refine jvret hF hr (by decide +kernel) ?_
                exact lMV ⟨hR_m_33, by (rw [hcf]; unfold finC; rw [if_neg (show ¬ (condP (mem 39) (mem 35 11) 6 (skp (mem 39) (mem 35 11) (skp (mem 39) (mem 35 11) (skp (mem 39) (mem 35 11) (mem 35 12) + 1) + 1))).1 ≠ -1 by omega), if_neg (show ¬ chr (mem 39) (mem 35 11) (skp (mem 39) (mem 35 11) (condP (mem 39) (mem 35 11) 6 (skp (mem 39) (mem 35 11) (skp (mem 39) (mem 35 11) (skp (mem 39) (mem 35 11) (mem 35 12) + 1) + 1))).2.1) ≠ 63 by rw [← hv5]; omega)]; by_cases e6 : (sumP (mem 39) (mem 35 11) 6 (skp (mem 39) (mem 35 11) (condP (mem 39) (mem 35 11) 6 (skp (mem 39) (mem 35 11) (skp (mem 39) (mem 35 11) (skp (mem 39) (mem 35 11) (mem 35 12) + 1) + 1))).2.1 + 1)).1 = -1; (rw [if_neg (show ¬ (sumP (mem 39) (mem 35 11) 6 (skp (mem 39) (mem 35 11) (condP (mem 39) (mem 35 11) 6 (skp (mem 39) (mem 35 11) (skp (mem 39) (mem 35 11) (skp (mem 39) (mem 35 11) (mem 35 12) + 1) + 1))).2.1 + 1)).1 ≠ -1 by omega), ec_ok]; rw [bnd_is e6] at hS6; unfold enC; rw [← hv]; simpa [okP] using hS6); (rw [if_pos e6, ec_er e6]; rw [bnd_no e6] at hS6; exact hS6))⟩
              · refine jvret hF hr (by decide +kernel) ?_
                exact lMV ⟨hR_m_24, by first | (exfalso; omega) | (rw [hcf]; unfold finC; rw [if_pos (show (condP (mem 39) (mem 35 11) 6 (skp (mem 39) (mem 35 11) (skp (mem 39) (mem 35 11) (skp (mem 39) (mem 35 11) (mem 35 12) + 1) + 1))).1 ≠ -1 by omega), ec_er (by omega)]; exact (hF2.er (by rw [app_er]; omega) (by rw [app_er]; rfl)).weak (by omega) (by omega)) | (rw [hcf]; unfold finC; rw [if_neg (show ¬ (condP (mem 39) (mem 35 11) 6 (skp (mem 39) (mem 35 11) (skp (mem 39) (mem 35 11) (skp (mem 39) (mem 35 11) (mem 35 12) + 1) + 1))).1 ≠ -1 by omega), if_pos (show chr (mem 39) (mem 35 11) (skp (mem 39) (mem 35 11) (condP (mem 39) (mem 35 11) 6 (skp (mem 39) (mem 35 11) (skp (mem 39) (mem 35 11) (skp (mem 39) (mem 35 11) (mem 35 12) + 1) + 1))).2.1) ≠ 63 by rw [← hv5]; omega), ec_er (by omega), hbb5]; exact (h5.bad (by omega) (by omega)).weak (by omega) (by omega))⟩
            · refine jblk hF [(.aload_n 0, 1)] (by decide +kernel) (pc' := 221) (lo' := [(4, (0, m_15 35 15)), (3, (0, 0)), (2, (0, v_17)), (1, (0, v_3)), (0, (2, 35))]) (st' := [(2, 35)]) rfl ?_
              refine jcallV hF (c_X12_bad hG hS hR_m_24 (by omega)) MW_X12_bad 13 (by decide) (by exact hS.k35) wd_1836 wd_1838 wd_p56 (by decide +kernel) [] rfl rfl (rmI (by omega) (by decide)) (Nat.le_of_ble_eq_true rfl) ⟨Nat.le_of_ble_eq_true rfl, Nat.le_of_ble_eq_true rfl⟩ (kMV (fun m_35 h_36 => ?_))
              obtain ⟨hR_m_35, h_36⟩ := h_36
              have hbb5 := h_36.1 (by omega)
              have g13b : m_35 35 13 = skp (mem 39) (mem 35 11) (condP (mem 39) (mem 35 11) 6 (skp (mem 39) (mem 35 11) (skp (mem 39) (mem 35 11) (skp (mem 39) (mem 35 11) (mem 35 12) + 1) + 1))).2.1 := by rw [hbb5, s2_s]; exact (h5.2.2.1 rfl).2.1
              refine jblk hF [(.aload_n 0, 1)] (by decide +kernel) (pc' := 225) (lo' := [(4, (0, m_15 35 15)), (3, (0, 0)), (2, (0, v_17)), (1, (0, v_3)), (0, (2, 35))]) (st' := [(2, 35)]) rfl ?_
              refine jget hF 13 13 0 13 rfl (by decide) (by decide) rfl wd_1476 (by decide +kernel) (by exact hS.k35) ?_
              refine jblk hF [(.iconst (-1), 1)] (by decide +kernel) (pc' := 229) (lo' := [(4, (0, m_15 35 15)), (3, (0, 0)), (2, (0, v_17)), (1, (0, v_3)), (0, (2, 35))]) (st' := [(0, (-1)), (0, m_35 35 13)]) rfl ?_
              refine jicmp_eq hF (off := 4) 233 (by decide +kernel) (by decide) (by omega) (by decide) (fun h_37 => ?_) (fun h_37 => ?_)
              · exfalso; omega
              · refine jvret hF hr (by decide +kernel) ?_
                exact lMV ⟨hR_m_35, by first | (exfalso; omega) | (rw [hcf]; unfold finC; rw [if_pos (show (condP (mem 39) (mem 35 11) 6 (skp (mem 39) (mem 35 11) (skp (mem 39) (mem 35 11) (skp (mem 39) (mem 35 11) (mem 35 12) + 1) + 1))).1 ≠ -1 by omega), ec_er (by omega)]; exact (hF2.er (by rw [app_er]; omega) (by rw [app_er]; rfl)).weak (by omega) (by omega)) | (rw [hcf]; unfold finC; rw [if_neg (show ¬ (condP (mem 39) (mem 35 11) 6 (skp (mem 39) (mem 35 11) (skp (mem 39) (mem 35 11) (skp (mem 39) (mem 35 11) (mem 35 12) + 1) + 1))).1 ≠ -1 by omega), if_pos (show chr (mem 39) (mem 35 11) (skp (mem 39) (mem 35 11) (condP (mem 39) (mem 35 11) 6 (skp (mem 39) (mem 35 11) (skp (mem 39) (mem 35 11) (skp (mem 39) (mem 35 11) (mem 35 12) + 1) + 1))).2.1) ≠ 63 by rw [← hv5]; omega), ec_er (by omega), hbb5]; exact (h5.bad (by omega) (by omega)).weak (by omega) (by omega))⟩
        · refine jblk hF [(.iload_n 2, 1), (.bipush 40, 2)] (by decide +kernel) (pc' := 75) (lo' := [(2, (0, v_17)), (1, (0, v_3)), (0, (2, 35))]) (st' := [(0, 40), (0, v_17)]) rfl ?_
          refine jicmp_eq hF (off := 7) 82 (by decide +kernel) (by decide) (by omega) (by decide) (fun h_38 => ?_) (fun h_38 => ?_)
          · refine jblk hF [(.iconst 0, 1), (.istore_n 3, 1), (.aload_n 0, 1)] (by decide +kernel) (pc' := 85) (lo' := [(3, (0, 0)), (2, (0, v_17)), (1, (0, v_3)), (0, (2, 35))]) (st' := [(2, 35)]) rfl ?_
            refine jget hF 13 15 0 15 rfl (by decide) (by decide) rfl wd_1478 (by decide +kernel) (by exact hS.k35) ?_
            refine jblk hF [(.istore 4, 2), (.iload_n 3, 1)] (by decide +kernel) (pc' := 91) (lo' := [(4, (0, m_15 35 15)), (3, (0, 0)), (2, (0, v_17)), (1, (0, v_3)), (0, (2, 35))]) (st' := [(0, 0)]) rfl ?_
            refine jif_eq hF (off := 107) 198 (by decide +kernel) (by decide) (by decide) (fun _ => ?_) (fun h => absurd h (by decide))
            refine jblk hF [(.aload_n 0, 1), (.iload_n 3, 1)] (by decide +kernel) (pc' := 200) (lo' := [(4, (0, m_15 35 15)), (3, (0, 0)), (2, (0, v_17)), (1, (0, v_3)), (0, (2, 35))]) (st' := [(0, 0), (2, 35)]) rfl ?_
            refine jcallV hF (c_X12_cond0 hG hS hR_m_15 0 rfl 6 (by assumption) (by assumption) (c_X12_unitA hG hS 6)) MW_X12_condition 13 (by decide) (by exact hS.k35) wd_1874 wd_1876 wd_p64 (by decide +kernel) [] rfl rfl (rmI (by omega) (by decide)) (Nat.le_of_ble_eq_true rfl) ⟨Nat.le_of_ble_eq_true rfl, Nat.le_of_ble_eq_true rfl⟩ (kMV (fun m_40 h_41 => ?_))
            obtain ⟨hR_m_40, h_41⟩ := h_41
            have hE : PS mc m_40 6 0 0 (condP (mem 39) (mem 35 11) 6 (skp (mem 39) (mem 35 11) (skp (mem 39) (mem 35 11) (skp (mem 39) (mem 35 11) (mem 35 12) + 1) + 1))) := by
              first
              | (have h9 := h_41; rw [← hmc, c39, c11, c12] at h9; exact h9)
              | (have h9 := h_41; rw [c39, c11, c1_skp hsr, ← cond_c1 (skp_skp _ _ _) (by rw [← hv3]; omega) (by rw [← hv3]; omega)] at h9; exact h9)
            have hcf : clP (mem 39) (mem 35 11) (mem 35 12) = finC (mem 39) (mem 35 11) (chr (mem 39) (mem 35 11) (skp (mem 39) (mem 35 11) (mem 35 12))) (condP (mem 39) (mem 35 11) 6 (skp (mem 39) (mem 35 11) (skp (mem 39) (mem 35 11) (skp (mem 39) (mem 35 11) (mem 35 12) + 1) + 1))) := by
              rw [hcl]
              unfold bodC
              first
              | (rw [if_pos (show chr (mem 39) (mem 35 11) (skp (mem 39) (mem 35 11) (skp (mem 39) (mem 35 11) (skp (mem 39) (mem 35 11) (mem 35 12) + 1) + 1)) = 33 ∨ chr (mem 39) (mem 35 11) (skp (mem 39) (mem 35 11) (skp (mem 39) (mem 35 11) (skp (mem 39) (mem 35 11) (mem 35 12) + 1) + 1)) = 40 by rw [← hv3]; omega)]; done)
              | (rw [if_neg (show ¬ (chr (mem 39) (mem 35 11) (skp (mem 39) (mem 35 11) (skp (mem 39) (mem 35 11) (skp (mem 39) (mem 35 11) (mem 35 12) + 1) + 1)) = 33 ∨ chr (mem 39) (mem 35 11) (skp (mem 39) (mem 35 11) (skp (mem 39) (mem 35 11) (skp (mem 39) (mem 35 11) (mem 35 12) + 1) + 1)) = 40) by rw [← hv3]; omega), if_neg (show ¬ (sumP (mem 39) (mem 35 11) 6 (skp (mem 39) (mem 35 11) (skp (mem 39) (mem 35 11) (skp (mem 39) (mem 35 11) (mem 35 12) + 1) + 1))).1 ≠ -1 by omega), if_pos (show isSg (chr (mem 39) (mem 35 11) (skp (mem 39) (mem 35 11) (sumP (mem 39) (mem 35 11) 6 (skp (mem 39) (mem 35 11) (skp (mem 39) (mem 35 11) (skp (mem 39) (mem 35 11) (mem 35 12) + 1) + 1))).2.1)) by rw [← hv4]; assumption)]; done)
            have hF2 := h3c.call rfl hE
            have hF13 : m_40 35 13 = (condP (mem 39) (mem 35 11) 6 (skp (mem 39) (mem 35 11) (skp (mem 39) (mem 35 11) (skp (mem 39) (mem 35 11) (mem 35 12) + 1) + 1))).1 := by rw [hF2.w13, app_er]
            have hFb := hF2.bdz hPT hPC (by omega) (fun q => by rw [app_er] at q ⊢; exact hgC.b200 (by omega) (by omega) q)
            have fPT := hF2.ptx hPT
            refine jblk hF [(.aload_n 0, 1)] (by decide +kernel) (pc' := 204) (lo' := [(4, (0, m_15 35 15)), (3, (0, 0)), (2, (0, v_17)), (1, (0, v_3)), (0, (2, 35))]) (st' := [(2, 35)]) rfl ?_
            refine jget hF 13 13 0 13 rfl (by decide) (by decide) rfl wd_1476 (by decide +kernel) (by exact hS.k35) ?_
            refine jblk hF [(.iconst (-1), 1)] (by decide +kernel) (pc' := 208) (lo' := [(4, (0, m_15 35 15)), (3, (0, 0)), (2, (0, v_17)), (1, (0, v_3)), (0, (2, 35))]) (st' := [(0, (-1)), (0, m_40 35 13)]) rfl ?_
            refine jicmp_ne hF (off := 16) 224 (by decide +kernel) (by decide) (by omega) (by decide) (fun h_42 => ?_) (fun h_42 => ?_)
            · refine jblk hF [(.aload_n 0, 1)] (by decide +kernel) (pc' := 225) (lo' := [(4, (0, m_15 35 15)), (3, (0, 0)), (2, (0, v_17)), (1, (0, v_3)), (0, (2, 35))]) (st' := [(2, 35)]) rfl ?_
              refine jget hF 13 13 0 13 rfl (by decide) (by decide) rfl wd_1476 (by decide +kernel) (by exact hS.k35) ?_
              refine jblk hF [(.iconst (-1), 1)] (by decide +kernel) (pc' := 229) (lo' := [(4, (0, m_15 35 15)), (3, (0, 0)), (2, (0, v_17)), (1, (0, v_3)), (0, (2, 35))]) (st' := [(0, (-1)), (0, m_40 35 13)]) rfl ?_
              refine jicmp_eq hF (off := 4) 233 (by decide +kernel) (by decide) (by omega) (by decide) (fun h_43 => ?_) (fun h_43 => ?_)
              · exfalso; omega
              · refine jvret hF hr (by decide +kernel) ?_
                exact lMV ⟨hR_m_40, by first | (exfalso; omega) | (rw [hcf]; unfold finC; rw [if_pos (show (condP (mem 39) (mem 35 11) 6 (skp (mem 39) (mem 35 11) (skp (mem 39) (mem 35 11) (skp (mem 39) (mem 35 11) (mem 35 12) + 1) + 1))).1 ≠ -1 by omega), ec_er (by omega)]; exact (hF2.er (by rw [app_er]; omega) (by rw [app_er]; rfl)).weak (by omega) (by omega)) | (rw [hcf]; unfold finC; rw [if_neg (show ¬ (condP (mem 39) (mem 35 11) 6 (skp (mem 39) (mem 35 11) (skp (mem 39) (mem 35 11) (skp (mem 39) (mem 35 11) (mem 35 12) + 1) + 1))).1 ≠ -1 by omega), if_pos (show chr (mem 39) (mem 35 11) (skp (mem 39) (mem 35 11) (condP (mem 39) (mem 35 11) 6 (skp (mem 39) (mem 35 11) (skp (mem 39) (mem 35 11) (skp (mem 39) (mem 35 11) (mem 35 12) + 1) + 1))).2.1) ≠ 63 by rw [← hv5]; omega), ec_er (by omega), hbb5]; exact (h5.bad (by omega) (by omega)).weak (by omega) (by omega))⟩
            · have hcr : (condP (mem 39) (mem 35 11) 6 (skp (mem 39) (mem 35 11) (skp (mem 39) (mem 35 11) (skp (mem 39) (mem 35 11) (mem 35 12) + 1) + 1))).1 = -1 := by omega
              have hF3 := hF2
              rw [bnd_is hcr] at hF3
              obtain ⟨f39, f11⟩ := hF2.txt
              have f12 : m_40 35 12 = (condP (mem 39) (mem 35 11) 6 (skp (mem 39) (mem 35 11) (skp (mem 39) (mem 35 11) (skp (mem 39) (mem 35 11) (mem 35 12) + 1) + 1))).2.1 := (hF3.2.2.1 rfl).2.1
              have hg5 := (hgC.1 hcr).1
              have hgL5 := (hgC.1 hcr).2.1
              refine jblk hF [(.aload_n 0, 1)] (by decide +kernel) (pc' := 212) (lo' := [(4, (0, m_15 35 15)), (3, (0, 0)), (2, (0, v_17)), (1, (0, v_3)), (0, (2, 35))]) (st' := [(2, 35)]) rfl ?_
              refine jcallV hF (c_X12_look hG hS hR_m_40 (by first | exact hPT | assumption) (by omega)) MW_X12_look 13 (by decide) (by exact hS.k35) wd_1829 wd_1831 wd_p55 (by decide +kernel) [] rfl rfl (rmI (by omega) (by decide)) (Nat.le_of_ble_eq_true rfl) ⟨Nat.le_of_ble_eq_true rfl, Nat.le_of_ble_eq_true rfl⟩ (kMR (fun v_46 m_44 h_45 => ?_))
              obtain ⟨hR_m_44, h_45⟩ := h_45
              obtain ⟨hv5, hl5⟩ := h_45
              have h5 := hF3.look (by omega) hl5
              rw [bnd_ok] at h5
              have l135 : m_44 35 13 = -1 := h5.w13
              rw [f39, f11, f12] at hv5
              have hsk5 := skp_f (mem 39) (mem 35 11) ((condP (mem 39) (mem 35 11) 6 (skp (mem 39) (mem 35 11) (skp (mem 39) (mem 35 11) (skp (mem 39) (mem 35 11) (mem 35 12) + 1) + 1))).2.1)
              have hcb5 : -1 ≤ v_46 ∧ v_46 ≤ 255 := by rw [hv5]; unfold chr; split; (have := hPT.2.2 _ (by omega : 0 ≤ skp (mem 39) (mem 35 11) (condP (mem 39) (mem 35 11) 6 (skp (mem 39) (mem 35 11) (skp (mem 39) (mem 35 11) (skp (mem 39) (mem 35 11) (mem 35 12) + 1) + 1))).2.1) (by omega); omega); omega
              have hS5L := hsk5.2.1 hgL5
              refine jblk hF [(.bipush 63, 2)] (by decide +kernel) (pc' := 217) (lo' := [(4, (0, m_15 35 15)), (3, (0, 0)), (2, (0, v_17)), (1, (0, v_3)), (0, (2, 35))]) (st' := [(0, 63), (0, v_46)]) rfl ?_
              refine jicmp_eq hF (off := 7) 224 (by decide +kernel) (by decide) (by omega) (by decide) (fun h_47 => ?_) (fun h_47 => ?_)
              · refine jblk hF [(.aload_n 0, 1)] (by decide +kernel) (pc' := 225) (lo' := [(4, (0, m_15 35 15)), (3, (0, 0)), (2, (0, v_17)), (1, (0, v_3)), (0, (2, 35))]) (st' := [(2, 35)]) rfl ?_
                refine jget hF 13 13 0 13 rfl (by decide) (by decide) rfl wd_1476 (by decide +kernel) (by exact hS.k35) ?_
                refine jblk hF [(.iconst (-1), 1)] (by decide +kernel) (pc' := 229) (lo' := [(4, (0, m_15 35 15)), (3, (0, 0)), (2, (0, v_17)), (1, (0, v_3)), (0, (2, 35))]) (st' := [(0, (-1)), (0, m_44 35 13)]) rfl ?_
                refine jicmp_eq hF (off := 4) 233 (by decide +kernel) (by decide) (by omega) (by decide) (fun h_48 => ?_) (fun h_48 => ?_)
                · have hV5 := h5.adv (chr_lt (mem 39) (by omega))
                  refine jblk hF [(.aload_n 0, 1), (.dup, 1)] (by decide +kernel) (pc' := 235) (lo' := [(4, (0, m_15 35 15)), (3, (0, 0)), (2, (0, v_17)), (1, (0, v_3)), (0, (2, 35))]) (st' := [(2, 35), (2, 35)]) rfl ?_
                  refine jget hF 13 12 0 12 rfl (by decide) (by decide) rfl wd_1475 (by decide +kernel) (by exact hS.k35) ?_
                  refine jblk hF [(.iconst 1, 1), (.iadd, 1)] (by decide +kernel) (pc' := 240) (lo' := [(4, (0, m_15 35 15)), (3, (0, 0)), (2, (0, v_17)), (1, (0, v_3)), (0, (2, 35))]) (st' := [(0, (m_44 35 12) + 1), (2, 35)]) rfl ?_
                  refine jput hF 13 12 0 12 rfl (by decide) (by decide) rfl wd_1475 (by decide +kernel) rfl (Or.inl rfl) (by exact hS.k35) (fun h => by cases h) ?_
                  have hV5b := hV5.bdz hPT hPC (by omega) (fun q => absurd rfl q)
                  refine jblk hF [(.aload_n 0, 1), (.iconst 2, 1)] (by decide +kernel) (pc' := 245) (lo' := [(4, (0, m_15 35 15)), (3, (0, 0)), (2, (0, v_17)), (1, (0, v_3)), (0, (2, 35))]) (st' := [(0, 2), (2, 35)]) rfl ?_
                  refine jcallV hF (c_X12_say hG hS (SR.s hR_m_44 (Or.inr (by decide))) 2 (by omega)) MW_X12_say 13 (by decide) (by exact hS.k35) wd_1840 wd_1842 wd_p57 (by decide +kernel) [] rfl rfl (rmI (by omega) (by decide)) (Nat.le_of_ble_eq_true rfl) ⟨Nat.le_of_ble_eq_true rfl, Nat.le_of_ble_eq_true rfl⟩ (kMV (fun m_49 h_50 => ?_))
                  obtain ⟨hR_m_49, h_50⟩ := h_50
                  have hS5 := (hV5.weak (d' := 0 + 1) (by omega) (by omega)).say 2
                  rw [← h_50, bnd_ok] at hS5
                  obtain ⟨k39, k11⟩ := hS5.txt
                  have k12 : m_49 35 12 = skp (mem 39) (mem 35 11) (condP (mem 39) (mem 35 11) 6 (skp (mem 39) (mem 35 11) (skp (mem 39) (mem 35 11) (skp (mem 39) (mem 35 11) (mem 35 12) + 1) + 1))).2.1 + 1 := (hS5.2.2.1 rfl).2.1
                  have kPT := hS5.ptx hPT
                  have kPC : PC m_49 ((6 : Nat) : Int) := hS5.pc rfl hPC (by omega) (by omega) (by omega)
                  refine jblk hF [(.aload_n 0, 1)] (by decide +kernel) (pc' := 249) (lo' := [(4, (0, m_15 35 15)), (3, (0, 0)), (2, (0, v_17)), (1, (0, v_3)), (0, (2, 35))]) (st' := [(2, 35)]) rfl ?_
                  refine jcallV hF (c_X12_sumA hG hS 6 _ hR_m_49 (by assumption) (by assumption)) MW_X12_sum 13 (by decide) (by exact hS.k35) wd_1844 wd_1846 wd_p58 (by decide +kernel) [] rfl rfl (rmI (by omega) (by decide)) (Nat.le_of_ble_eq_true rfl) ⟨Nat.le_of_ble_eq_true rfl, Nat.le_of_ble_eq_true rfl⟩ (kMV (fun m_51 h_52 => ?_))
                  obtain ⟨hR_m_51, h_52⟩ := h_52
                  have hC6 := hS5.call rfl h_52
                  rw [k39, k11, k12] at hC6
                  have hgV := sumP_gd (mem 39) (mem 35 11) 6 (skp (mem 39) (mem 35 11) (condP (mem 39) (mem 35 11) 6 (skp (mem 39) (mem 35 11) (skp (mem 39) (mem 35 11) (skp (mem 39) (mem 35 11) (mem 35 12) + 1) + 1))).2.1 + 1) (by omega) (by have := chr_lt (L := (mem 35 11)) (a := skp (mem 39) (mem 35 11) (condP (mem 39) (mem 35 11) 6 (skp (mem 39) (mem 35 11) (skp (mem 39) (mem 35 11) (skp (mem 39) (mem 35 11) (mem 35 12) + 1) + 1))).2.1) (mem 39) (by omega); omega)
                  have hCb6 := hC6.bdz hPT hPC (by omega) (fun q => by rw [app_er] at q ⊢; exact hgV.b200 (by omega) (by omega) q)
                  refine jblk hF [(.aload_n 0, 1), (.iconst 3, 1)] (by decide +kernel) (pc' := 254) (lo' := [(4, (0, m_15 35 15)), (3, (0, 0)), (2, (0, v_17)), (1, (0, v_3)), (0, (2, 35))]) (st' := [(0, 3), (2, 35)]) rfl ?_
                  refine jcallV hF (c_X12_say hG hS hR_m_51 3 (by omega)) MW_X12_say 13 (by decide) (by exact hS.k35) wd_1840 wd_1842 wd_p57 (by decide +kernel) [] rfl rfl (rmI (by omega) (by decide)) (Nat.le_of_ble_eq_true rfl) ⟨Nat.le_of_ble_eq_true rfl, Nat.le_of_ble_eq_true rfl⟩ (kMV (fun m_53 h_54 => ?_))
                  obtain ⟨hR_m_53, h_54⟩ := h_54
                  have hS6 := (hC6.weak (d' := -1 + 1) (Int.le_refl _) (by omega)).say 3
                  rw [← h_54, app_say] at hS6
                  refine jvret hF hr (by decide +kernel) ?_
                  exact lMV ⟨hR_m_53, by (rw [hcf]; unfold finC; rw [if_neg (show ¬ (condP (mem 39) (mem 35 11) 6 (skp (mem 39) (mem 35 11) (skp (mem 39) (mem 35 11) (skp (mem 39) (mem 35 11) (mem 35 12) + 1) + 1))).1 ≠ -1 by omega), if_neg (show ¬ chr (mem 39) (mem 35 11) (skp (mem 39) (mem 35 11) (condP (mem 39) (mem 35 11) 6 (skp (mem 39) (mem 35 11) (skp (mem 39) (mem 35 11) (skp (mem 39) (mem 35 11) (mem 35 12) + 1) + 1))).2.1) ≠ 63 by rw [← hv5]; omega)]; by_cases e6 : (sumP (mem 39) (mem 35 11) 6 (skp (mem 39) (mem 35 11) (condP (mem 39) (mem 35 11) 6 (skp (mem 39) (mem 35 11) (skp (mem 39) (mem 35 11) (skp (mem 39) (mem 35 11) (mem 35 12) + 1) + 1))).2.1 + 1)).1 = -1; (rw [if_neg (show ¬ (sumP (mem 39) (mem 35 11) 6 (skp (mem 39) (mem 35 11) (condP (mem 39) (mem 35 11) 6 (skp (mem 39) (mem 35 11) (skp (mem 39) (mem 35 11) (skp (mem 39) (mem 35 11) (mem 35 12) + 1) + 1))).2.1 + 1)).1 ≠ -1 by omega), ec_ok]; rw [bnd_is e6] at hS6; unfold enC; rw [← hv]; simpa [okP] using hS6); (rw [if_pos e6, ec_er e6]; rw [bnd_no e6] at hS6; exact hS6))⟩
                · refine jvret hF hr (by decide +kernel) ?_
                  exact lMV ⟨hR_m_44, by first | (exfalso; omega) | (rw [hcf]; unfold finC; rw [if_pos (show (condP (mem 39) (mem 35 11) 6 (skp (mem 39) (mem 35 11) (skp (mem 39) (mem 35 11) (skp (mem 39) (mem 35 11) (mem 35 12) + 1) + 1))).1 ≠ -1 by omega), ec_er (by omega)]; exact (hF2.er (by rw [app_er]; omega) (by rw [app_er]; rfl)).weak (by omega) (by omega)) | (rw [hcf]; unfold finC; rw [if_neg (show ¬ (condP (mem 39) (mem 35 11) 6 (skp (mem 39) (mem 35 11) (skp (mem 39) (mem 35 11) (skp (mem 39) (mem 35 11) (mem 35 12) + 1) + 1))).1 ≠ -1 by omega), if_pos (show chr (mem 39) (mem 35 11) (skp (mem 39) (mem 35 11) (condP (mem 39) (mem 35 11) 6 (skp (mem 39) (mem 35 11) (skp (mem 39) (mem 35 11) (skp (mem 39) (mem 35 11) (mem 35 12) + 1) + 1))).2.1) ≠ 63 by rw [← hv5]; omega), ec_er (by omega), hbb5]; exact (h5.bad (by omega) (by omega)).weak (by omega) (by omega))⟩
              · refine jblk hF [(.aload_n 0, 1)] (by decide +kernel) (pc' := 221) (lo' := [(4, (0, m_15 35 15)), (3, (0, 0)), (2, (0, v_17)), (1, (0, v_3)), (0, (2, 35))]) (st' := [(2, 35)]) rfl ?_
                refine jcallV hF (c_X12_bad hG hS hR_m_44 (by omega)) MW_X12_bad 13 (by decide) (by exact hS.k35) wd_1836 wd_1838 wd_p56 (by decide +kernel) [] rfl rfl (rmI (by omega) (by decide)) (Nat.le_of_ble_eq_true rfl) ⟨Nat.le_of_ble_eq_true rfl, Nat.le_of_ble_eq_true rfl⟩ (kMV (fun m_55 h_56 => ?_))
                obtain ⟨hR_m_55, h_56⟩ := h_56
                have hbb5 := h_56.1 (by omega)
                have g13b : m_55 35 13 = skp (mem 39) (mem 35 11) (condP (mem 39) (mem 35 11) 6 (skp (mem 39) (mem 35 11) (skp (mem 39) (mem 35 11) (skp (mem 39) (mem 35 11) (mem 35 12) + 1) + 1))).2.1 := by rw [hbb5, s2_s]; exact (h5.2.2.1 rfl).2.1
                refine jblk hF [(.aload_n 0, 1)] (by decide +kernel) (pc' := 225) (lo' := [(4, (0, m_15 35 15)), (3, (0, 0)), (2, (0, v_17)), (1, (0, v_3)), (0, (2, 35))]) (st' := [(2, 35)]) rfl ?_
                refine jget hF 13 13 0 13 rfl (by decide) (by decide) rfl wd_1476 (by decide +kernel) (by exact hS.k35) ?_
                refine jblk hF [(.iconst (-1), 1)] (by decide +kernel) (pc' := 229) (lo' := [(4, (0, m_15 35 15)), (3, (0, 0)), (2, (0, v_17)), (1, (0, v_3)), (0, (2, 35))]) (st' := [(0, (-1)), (0, m_55 35 13)]) rfl ?_
                refine jicmp_eq hF (off := 4) 233 (by decide +kernel) (by decide) (by omega) (by decide) (fun h_57 => ?_) (fun h_57 => ?_)
                · exfalso; omega
                · refine jvret hF hr (by decide +kernel) ?_
                  exact lMV ⟨hR_m_55, by first | (exfalso; omega) | (rw [hcf]; unfold finC; rw [if_pos (show (condP (mem 39) (mem 35 11) 6 (skp (mem 39) (mem 35 11) (skp (mem 39) (mem 35 11) (skp (mem 39) (mem 35 11) (mem 35 12) + 1) + 1))).1 ≠ -1 by omega), ec_er (by omega)]; exact (hF2.er (by rw [app_er]; omega) (by rw [app_er]; rfl)).weak (by omega) (by omega)) | (rw [hcf]; unfold finC; rw [if_neg (show ¬ (condP (mem 39) (mem 35 11) 6 (skp (mem 39) (mem 35 11) (skp (mem 39) (mem 35 11) (skp (mem 39) (mem 35 11) (mem 35 12) + 1) + 1))).1 ≠ -1 by omega), if_pos (show chr (mem 39) (mem 35 11) (skp (mem 39) (mem 35 11) (condP (mem 39) (mem 35 11) 6 (skp (mem 39) (mem 35 11) (skp (mem 39) (mem 35 11) (skp (mem 39) (mem 35 11) (mem 35 12) + 1) + 1))).2.1) ≠ 63 by rw [← hv5]; omega), ec_er (by omega), hbb5]; exact (h5.bad (by omega) (by omega)).weak (by omega) (by omega))⟩
          · refine jblk hF [(.iconst 1, 1)] (by decide +kernel) (pc' := 79) (lo' := [(2, (0, v_17)), (1, (0, v_3)), (0, (2, 35))]) (st' := [(0, 1)]) rfl ?_
            refine jgoto hF (off := 4) 83 (by decide +kernel) (by decide) ?_
            refine jblk hF [(.istore_n 3, 1), (.aload_n 0, 1)] (by decide +kernel) (pc' := 85) (lo' := [(3, (0, 1)), (2, (0, v_17)), (1, (0, v_3)), (0, (2, 35))]) (st' := [(2, 35)]) rfl ?_
            refine jget hF 13 15 0 15 rfl (by decide) (by decide) rfl wd_1478 (by decide +kernel) (by exact hS.k35) ?_
            refine jblk hF [(.istore 4, 2), (.iload_n 3, 1)] (by decide +kernel) (pc' := 91) (lo' := [(4, (0, m_15 35 15)), (3, (0, 1)), (2, (0, v_17)), (1, (0, v_3)), (0, (2, 35))]) (st' := [(0, 1)]) rfl ?_
            refine jif_eq hF (off := 107) 198 (by decide +kernel) (by decide) (by decide) (fun h => absurd h (by decide)) (fun _ => ?_)
            refine jblk hF [(.aload_n 0, 1)] (by decide +kernel) (pc' := 95) (lo' := [(4, (0, m_15 35 15)), (3, (0, 1)), (2, (0, v_17)), (1, (0, v_3)), (0, (2, 35))]) (st' := [(2, 35)]) rfl ?_
            refine jcallV hF (c_X12_sumA hG hS 6 _ hR_m_15 (by assumption) (by assumption)) MW_X12_sum 13 (by decide) (by exact hS.k35) wd_1844 wd_1846 wd_p58 (by decide +kernel) [] rfl rfl (rmI (by omega) (by decide)) (Nat.le_of_ble_eq_true rfl) ⟨Nat.le_of_ble_eq_true rfl, Nat.le_of_ble_eq_true rfl⟩ (kMV (fun m_59 h_60 => ?_))
            obtain ⟨hR_m_59, h_60⟩ := h_60
            have hD := h_60
            rw [← hmc, c39, c11, c12] at hD
            have hC := h3c.call rfl hD
            have hC13 : m_59 35 13 = (sumP (mem 39) (mem 35 11) 6 (skp (mem 39) (mem 35 11) (skp (mem 39) (mem 35 11) (skp (mem 39) (mem 35 11) (mem 35 12) + 1) + 1))).1 := by rw [hC.w13, app_er]
            have hCb := hC.bdz hPT hPC (by omega) (fun q => by rw [app_er] at q ⊢; exact hgS.b200 (by omega) (by omega) q)
            refine jblk hF [(.aload_n 0, 1)] (by decide +kernel) (pc' := 99) (lo' := [(4, (0, m_15 35 15)), (3, (0, 1)), (2, (0, v_17)), (1, (0, v_3)), (0, (2, 35))]) (st' := [(2, 35)]) rfl ?_
            refine jget hF 13 13 0 13 rfl (by decide) (by decide) rfl wd_1476 (by decide +kernel) (by exact hS.k35) ?_
            refine jblk hF [(.iconst (-1), 1)] (by decide +kernel) (pc' := 103) (lo' := [(4, (0, m_15 35 15)), (3, (0, 1)), (2, (0, v_17)), (1, (0, v_3)), (0, (2, 35))]) (st' := [(0, (-1)), (0, m_59 35 13)]) rfl ?_
            refine jicmp_eq hF (off := 4) 107 (by decide +kernel) (by decide) (by omega) (by decide) (fun h_61 => ?_) (fun h_61 => ?_)
            · have hsr : (sumP (mem 39) (mem 35 11) 6 (skp (mem 39) (mem 35 11) (skp (mem 39) (mem 35 11) (skp (mem 39) (mem 35 11) (mem 35 12) + 1) + 1))).1 = -1 := by omega
              have hC2 := hC
              rw [bnd_is hsr] at hC2
              have hDq := hD
              have ePT := hC.ptx hPT
              obtain ⟨e39, e11⟩ := hC.txt
              have e12 : m_59 35 12 = (sumP (mem 39) (mem 35 11) 6 (skp (mem 39) (mem 35 11) (skp (mem 39) (mem 35 11) (skp (mem 39) (mem 35 11) (mem 35 12) + 1) + 1))).2.1 := (hC2.2.2.1 rfl).2.1
              refine jblk hF [(.aload_n 0, 1)] (by decide +kernel) (pc' := 108) (lo' := [(4, (0, m_15 35 15)), (3, (0, 1)), (2, (0, v_17)), (1, (0, v_3)), (0, (2, 35))]) (st' := [(2, 35)]) rfl ?_
              refine jcallV hF (c_X12_look hG hS hR_m_59 (by first | exact hPT | assumption) (by omega)) MW_X12_look 13 (by decide) (by exact hS.k35) wd_1829 wd_1831 wd_p55 (by decide +kernel) [] rfl rfl (rmI (by omega) (by decide)) (Nat.le_of_ble_eq_true rfl) ⟨Nat.le_of_ble_eq_true rfl, Nat.le_of_ble_eq_true rfl⟩ (kMR (fun v_64 m_62 h_63 => ?_))
              obtain ⟨hR_m_62, h_63⟩ := h_63
              have hg0 := (hgS.1 hsr).1
              have hgL := (hgS.1 hsr).2.1
              obtain ⟨hv4, hl4⟩ := h_63
              have h4 := hC2.look (by omega) hl4
              rw [bnd_ok] at h4
              have l134 : m_62 35 13 = -1 := h4.w13
              rw [e39, e11, e12] at hv4
              have hsk4 := skp_f (mem 39) (mem 35 11) ((sumP (mem 39) (mem 35 11) 6 (skp (mem 39) (mem 35 11) (skp (mem 39) (mem 35 11) (skp (mem 39) (mem 35 11) (mem 35 12) + 1) + 1))).2.1)
              have hcb4 : -1 ≤ v_64 ∧ v_64 ≤ 255 := by rw [hv4]; unfold chr; split; (have := hPT.2.2 _ (by omega : 0 ≤ skp (mem 39) (mem 35 11) (sumP (mem 39) (mem 35 11) 6 (skp (mem 39) (mem 35 11) (skp (mem 39) (mem 35 11) (skp (mem 39) (mem 35 11) (mem 35 12) + 1) + 1))).2.1) (by omega); omega); omega
              have hD2 := (hDq.look (by omega) hl4).okI hsr
              rw [c39, c11] at hD2
              have hDg : GD (mc 39) (mc 35 11) (mc 35 12) (okP (skp (mem 39) (mem 35 11) (sumP (mem 39) (mem 35 11) 6 (skp (mem 39) (mem 35 11) (skp (mem 39) (mem 35 11) (skp (mem 39) (mem 35 11) (mem 35 12) + 1) + 1))).2.1) (sumP (mem 39) (mem 35 11) 6 (skp (mem 39) (mem 35 11) (skp (mem 39) (mem 35 11) (skp (mem 39) (mem 35 11) (mem 35 12) + 1) + 1))).2.2) := by rw [c39, c11, c12]; exact GD.ok (hgS.1 hsr).skp
              have h4b := h4.bdz hPT hPC (by omega) (fun q => absurd rfl q)
              refine jcallS hF (c_X12_isSign hG v_64 (by omega)) MW_X12_isSign wd_1871 wd_1872 (by decide +kernel) [] rfl rfl (rmI (by omega) (by decide)) (Nat.le_of_ble_eq_true rfl) ⟨Nat.le_of_ble_eq_true rfl, Nat.le_of_ble_eq_true rfl⟩ (kB (fun h_65 => ?_) (fun h_65 => ?_))
              · refine jif_ne hF (off := 84) 198 (by decide +kernel) (by decide) (by decide) (fun _ => ?_) (fun h => absurd h (by decide))
                refine jblk hF [(.aload_n 0, 1), (.iload_n 3, 1)] (by decide +kernel) (pc' := 200) (lo' := [(4, (0, m_15 35 15)), (3, (0, 1)), (2, (0, v_17)), (1, (0, v_3)), (0, (2, 35))]) (st' := [(0, 1), (2, 35)]) rfl ?_
                refine jcallV hF (c_X12_cond1 hG hS hR_m_62 1 rfl 6 mc (okP (skp (mem 39) (mem 35 11) (sumP (mem 39) (mem 35 11) 6 (skp (mem 39) (mem 35 11) (skp (mem 39) (mem 35 11) (skp (mem 39) (mem 35 11) (mem 35 12) + 1) + 1))).2.1) (sumP (mem 39) (mem 35 11) 6 (skp (mem 39) (mem 35 11) (skp (mem 39) (mem 35 11) (skp (mem 39) (mem 35 11) (mem 35 12) + 1) + 1))).2.2) (by assumption) (by assumption) (by exact hD2) (by exact hDg) (c_X12_unitA hG hS 6)) MW_X12_condition 13 (by decide) (by exact hS.k35) wd_1874 wd_1876 wd_p64 (by decide +kernel) [] rfl rfl (rmI (by omega) (by decide)) (Nat.le_of_ble_eq_true rfl) ⟨Nat.le_of_ble_eq_true rfl, Nat.le_of_ble_eq_true rfl⟩ (kMV (fun m_67 h_68 => ?_))
                obtain ⟨hR_m_67, h_68⟩ := h_68
                have hE : PS mc m_67 6 0 0 (condP (mem 39) (mem 35 11) 6 (skp (mem 39) (mem 35 11) (skp (mem 39) (mem 35 11) (skp (mem 39) (mem 35 11) (mem 35 12) + 1) + 1))) := by
                  first
                  | (have h9 := h_68; rw [← hmc, c39, c11, c12] at h9; exact h9)
                  | (have h9 := h_68; rw [c39, c11, c1_skp hsr, ← cond_c1 (skp_skp _ _ _) (by rw [← hv3]; omega) (by rw [← hv3]; omega)] at h9; exact h9)
                have hcf : clP (mem 39) (mem 35 11) (mem 35 12) = finC (mem 39) (mem 35 11) (chr (mem 39) (mem 35 11) (skp (mem 39) (mem 35 11) (mem 35 12))) (condP (mem 39) (mem 35 11) 6 (skp (mem 39) (mem 35 11) (skp (mem 39) (mem 35 11) (skp (mem 39) (mem 35 11) (mem 35 12) + 1) + 1))) := by
                  rw [hcl]
                  unfold bodC
                  first
                  | (rw [if_pos (show chr (mem 39) (mem 35 11) (skp (mem 39) (mem 35 11) (skp (mem 39) (mem 35 11) (skp (mem 39) (mem 35 11) (mem 35 12) + 1) + 1)) = 33 ∨ chr (mem 39) (mem 35 11) (skp (mem 39) (mem 35 11) (skp (mem 39) (mem 35 11) (skp (mem 39) (mem 35 11) (mem 35 12) + 1) + 1)) = 40 by rw [← hv3]; omega)]; done)
                  | (rw [if_neg (show ¬ (chr (mem 39) (mem 35 11) (skp (mem 39) (mem 35 11) (skp (mem 39) (mem 35 11) (skp (mem 39) (mem 35 11) (mem 35 12) + 1) + 1)) = 33 ∨ chr (mem 39) (mem 35 11) (skp (mem 39) (mem 35 11) (skp (mem 39) (mem 35 11) (skp (mem 39) (mem 35 11) (mem 35 12) + 1) + 1)) = 40) by rw [← hv3]; omega), if_neg (show ¬ (sumP (mem 39) (mem 35 11) 6 (skp (mem 39) (mem 35 11) (skp (mem 39) (mem 35 11) (skp (mem 39) (mem 35 11) (mem 35 12) + 1) + 1))).1 ≠ -1 by omega), if_pos (show isSg (chr (mem 39) (mem 35 11) (skp (mem 39) (mem 35 11) (sumP (mem 39) (mem 35 11) 6 (skp (mem 39) (mem 35 11) (skp (mem 39) (mem 35 11) (skp (mem 39) (mem 35 11) (mem 35 12) + 1) + 1))).2.1)) by rw [← hv4]; assumption)]; done)
                have hF2 := h3c.call rfl hE
                have hF13 : m_67 35 13 = (condP (mem 39) (mem 35 11) 6 (skp (mem 39) (mem 35 11) (skp (mem 39) (mem 35 11) (skp (mem 39) (mem 35 11) (mem 35 12) + 1) + 1))).1 := by rw [hF2.w13, app_er]
                have hFb := hF2.bdz hPT hPC (by omega) (fun q => by rw [app_er] at q ⊢; exact hgC.b200 (by omega) (by omega) q)
                have fPT := hF2.ptx hPT
                refine jblk hF [(.aload_n 0, 1)] (by decide +kernel) (pc' := 204) (lo' := [(4, (0, m_15 35 15)), (3, (0, 1)), (2, (0, v_17)), (1, (0, v_3)), (0, (2, 35))]) (st' := [(2, 35)]) rfl ?_
                refine jget hF 13 13 0 13 rfl (by decide) (by decide) rfl wd_1476 (by decide +kernel) (by exact hS.k35) ?_
                refine jblk hF [(.iconst (-1), 1)] (by decide +kernel) (pc' := 208) (lo' := [(4, (0, m_15 35 15)), (3, (0, 1)), (2, (0, v_17)), (1, (0, v_3)), (0, (2, 35))]) (st' := [(0, (-1)), (0, m_67 35 13)]) rfl ?_
                refine jicmp_ne hF (off := 16) 224 (by decide +kernel) (by decide) (by omega) (by decide) (fun h_69 => ?_) (fun h_69 => ?_)
                · refine jblk hF [(.aload_n 0, 1)] (by decide +kernel) (pc' := 225) (lo' := [(4, (0, m_15 35 15)), (3, (0, 1)), (2, (0, v_17)), (1, (0, v_3)), (0, (2, 35))]) (st' := [(2, 35)]) rfl ?_
                  refine jget hF 13 13 0 13 rfl (by decide) (by decide) rfl wd_1476 (by decide +kernel) (by exact hS.k35) ?_
                  refine jblk hF [(.iconst (-1), 1)] (by decide +kernel) (pc' := 229) (lo' := [(4, (0, m_15 35 15)), (3, (0, 1)), (2, (0, v_17)), (1, (0, v_3)), (0, (2, 35))]) (st' := [(0, (-1)), (0, m_67 35 13)]) rfl ?_
                  refine jicmp_eq hF (off := 4) 233 (by decide +kernel) (by decide) (by omega) (by decide) (fun h_70 => ?_) (fun h_70 => ?_)
                  · exfalso; omega
                  · refine jvret hF hr (by decide +kernel) ?_
                    exact lMV ⟨hR_m_67, by first | (exfalso; omega) | (rw [hcf]; unfold finC; rw [if_pos (show (condP (mem 39) (mem 35 11) 6 (skp (mem 39) (mem 35 11) (skp (mem 39) (mem 35 11) (skp (mem 39) (mem 35 11) (mem 35 12) + 1) + 1))).1 ≠ -1 by omega), ec_er (by omega)]; exact (hF2.er (by rw [app_er]; omega) (by rw [app_er]; rfl)).weak (by omega) (by omega)) | (rw [hcf]; unfold finC; rw [if_neg (show ¬ (condP (mem 39) (mem 35 11) 6 (skp (mem 39) (mem 35 11) (skp (mem 39) (mem 35 11) (skp (mem 39) (mem 35 11) (mem 35 12) + 1) + 1))).1 ≠ -1 by omega), if_pos (show chr (mem 39) (mem 35 11) (skp (mem 39) (mem 35 11) (condP (mem 39) (mem 35 11) 6 (skp (mem 39) (mem 35 11) (skp (mem 39) (mem 35 11) (skp (mem 39) (mem 35 11) (mem 35 12) + 1) + 1))).2.1) ≠ 63 by rw [← hv5]; omega), ec_er (by omega), hbb5]; exact (h5.bad (by omega) (by omega)).weak (by omega) (by omega))⟩
                · have hcr : (condP (mem 39) (mem 35 11) 6 (skp (mem 39) (mem 35 11) (skp (mem 39) (mem 35 11) (skp (mem 39) (mem 35 11) (mem 35 12) + 1) + 1))).1 = -1 := by omega
                  have hF3 := hF2
                  rw [bnd_is hcr] at hF3
                  obtain ⟨f39, f11⟩ := hF2.txt
                  have f12 : m_67 35 12 = (condP (mem 39) (mem 35 11) 6 (skp (mem 39) (mem 35 11) (skp (mem 39) (mem 35 11) (skp (mem 39) (mem 35 11) (mem 35 12) + 1) + 1))).2.1 := (hF3.2.2.1 rfl).2.1
                  have hg5 := (hgC.1 hcr).1
                  have hgL5 := (hgC.1 hcr).2.1
                  refine jblk hF [(.aload_n 0, 1)] (by decide +kernel) (pc' := 212) (lo' := [(4, (0, m_15 35 15)), (3, (0, 1)), (2, (0, v_17)), (1, (0, v_3)), (0, (2, 35))]) (st' := [(2, 35)]) rfl ?_
                  refine jcallV hF (c_X12_look hG hS hR_m_67 (by first | exact hPT | assumption) (by omega)) MW_X12_look 13 (by decide) (by exact hS.k35) wd_1829 wd_1831 wd_p55 (by decide +kernel) [] rfl rfl (rmI (by omega) (by decide)) (Nat.le_of_ble_eq_true rfl) ⟨Nat.le_of_ble_eq_true rfl, Nat.le_of_ble_eq_true rfl⟩ (kMR (fun v_73 m_71 h_72 => ?_))
                  obtain ⟨hR_m_71, h_72⟩ := h_72
                  obtain ⟨hv5, hl5⟩ := h_72
                  have h5 := hF3.look (by omega) hl5
                  rw [bnd_ok] at h5
                  have l135 : m_71 35 13 = -1 := h5.w13
                  rw [f39, f11, f12] at hv5
                  have hsk5 := skp_f (mem 39) (mem 35 11) ((condP (mem 39) (mem 35 11) 6 (skp (mem 39) (mem 35 11) (skp (mem 39) (mem 35 11) (skp (mem 39) (mem 35 11) (mem 35 12) + 1) + 1))).2.1)
                  have hcb5 : -1 ≤ v_73 ∧ v_73 ≤ 255 := by rw [hv5]; unfold chr; split; (have := hPT.2.2 _ (by omega : 0 ≤ skp (mem 39) (mem 35 11) (condP (mem 39) (mem 35 11) 6 (skp (mem 39) (mem 35 11) (skp (mem 39) (mem 35 11) (skp (mem 39) (mem 35 11) (mem 35 12) + 1) + 1))).2.1) (by omega); omega); omega
                  have hS5L := hsk5.2.1 hgL5
                  refine jblk hF [(.bipush 63, 2)] (by decide +kernel) (pc' := 217) (lo' := [(4, (0, m_15 35 15)), (3, (0, 1)), (2, (0, v_17)), (1, (0, v_3)), (0, (2, 35))]) (st' := [(0, 63), (0, v_73)]) rfl ?_
                  refine jicmp_eq hF (off := 7) 224 (by decide +kernel) (by decide) (by omega) (by decide) (fun h_74 => ?_) (fun h_74 => ?_)
                  · refine jblk hF [(.aload_n 0, 1)] (by decide +kernel) (pc' := 225) (lo' := [(4, (0, m_15 35 15)), (3, (0, 1)), (2, (0, v_17)), (1, (0, v_3)), (0, (2, 35))]) (st' := [(2, 35)]) rfl ?_
                    refine jget hF 13 13 0 13 rfl (by decide) (by decide) rfl wd_1476 (by decide +kernel) (by exact hS.k35) ?_
                    refine jblk hF [(.iconst (-1), 1)] (by decide +kernel) (pc' := 229) (lo' := [(4, (0, m_15 35 15)), (3, (0, 1)), (2, (0, v_17)), (1, (0, v_3)), (0, (2, 35))]) (st' := [(0, (-1)), (0, m_71 35 13)]) rfl ?_
                    refine jicmp_eq hF (off := 4) 233 (by decide +kernel) (by decide) (by omega) (by decide) (fun h_75 => ?_) (fun h_75 => ?_)
                    · have hV5 := h5.adv (chr_lt (mem 39) (by omega))
                      refine jblk hF [(.aload_n 0, 1), (.dup, 1)] (by decide +kernel) (pc' := 235) (lo' := [(4, (0, m_15 35 15)), (3, (0, 1)), (2, (0, v_17)), (1, (0, v_3)), (0, (2, 35))]) (st' := [(2, 35), (2, 35)]) rfl ?_
                      refine jget hF 13 12 0 12 rfl (by decide) (by decide) rfl wd_1475 (by decide +kernel) (by exact hS.k35) ?_
                      refine jblk hF [(.iconst 1, 1), (.iadd, 1)] (by decide +kernel) (pc' := 240) (lo' := [(4, (0, m_15 35 15)), (3, (0, 1)), (2, (0, v_17)), (1, (0, v_3)), (0, (2, 35))]) (st' := [(0, (m_71 35 12) + 1), (2, 35)]) rfl ?_
                      refine jput hF 13 12 0 12 rfl (by decide) (by decide) rfl wd_1475 (by decide +kernel) rfl (Or.inl rfl) (by exact hS.k35) (fun h => by cases h) ?_
                      have hV5b := hV5.bdz hPT hPC (by omega) (fun q => absurd rfl q)
                      refine jblk hF [(.aload_n 0, 1), (.iconst 2, 1)] (by decide +kernel) (pc' := 245) (lo' := [(4, (0, m_15 35 15)), (3, (0, 1)), (2, (0, v_17)), (1, (0, v_3)), (0, (2, 35))]) (st' := [(0, 2), (2, 35)]) rfl ?_
                      refine jcallV hF (c_X12_say hG hS (SR.s hR_m_71 (Or.inr (by decide))) 2 (by omega)) MW_X12_say 13 (by decide) (by exact hS.k35) wd_1840 wd_1842 wd_p57 (by decide +kernel) [] rfl rfl (rmI (by omega) (by decide)) (Nat.le_of_ble_eq_true rfl) ⟨Nat.le_of_ble_eq_true rfl, Nat.le_of_ble_eq_true rfl⟩ (kMV (fun m_76 h_77 => ?_))
                      obtain ⟨hR_m_76, h_77⟩ := h_77
                      have hS5 := (hV5.weak (d' := 0 + 1) (by omega) (by omega)).say 2
                      rw [← h_77, bnd_ok] at hS5
                      obtain ⟨k39, k11⟩ := hS5.txt
                      have k12 : m_76 35 12 = skp (mem 39) (mem 35 11) (condP (mem 39) (mem 35 11) 6 (skp (mem 39) (mem 35 11) (skp (mem 39) (mem 35 11) (skp (mem 39) (mem 35 11) (mem 35 12) + 1) + 1))).2.1 + 1 := (hS5.2.2.1 rfl).2.1
                      have kPT := hS5.ptx hPT
                      have kPC : PC m_76 ((6 : Nat) : Int) := hS5.pc rfl hPC (by omega) (by omega) (by omega)
                      refine jblk hF [(.aload_n 0, 1)] (by decide +kernel) (pc' := 249) (lo' := [(4, (0, m_15 35 15)), (3, (0, 1)), (2, (0, v_17)), (1, (0, v_3)), (0, (2, 35))]) (st' := [(2, 35)]) rfl ?_
                      refine jcallV hF (c_X12_sumA hG hS 6 _ hR_m_76 (by assumption) (by assumption)) MW_X12_sum 13 (by decide) (by exact hS.k35) wd_1844 wd_1846 wd_p58 (by decide +kernel) [] rfl rfl (rmI (by omega) (by decide)) (Nat.le_of_ble_eq_true rfl) ⟨Nat.le_of_ble_eq_true rfl, Nat.le_of_ble_eq_true rfl⟩ (kMV (fun m_78 h_79 => ?_))
                      obtain ⟨hR_m_78, h_79⟩ := h_79
                      have hC6 := hS5.call rfl h_79
                      rw [k39, k11, k12] at hC6
                      have hgV := sumP_gd (mem 39) (mem 35 11) 6 (skp (mem 39) (mem 35 11) (condP (mem 39) (mem 35 11) 6 (skp (mem 39) (mem 35 11) (skp (mem 39) (mem 35 11) (skp (mem 39) (mem 35 11) (mem 35 12) + 1) + 1))).2.1 + 1) (by omega) (by have := chr_lt (L := (mem 35 11)) (a := skp (mem 39) (mem 35 11) (condP (mem 39) (mem 35 11) 6 (skp (mem 39) (mem 35 11) (skp (mem 39) (mem 35 11) (skp (mem 39) (mem 35 11) (mem 35 12) + 1) + 1))).2.1) (mem 39) (by omega); omega)
                      have hCb6 := hC6.bdz hPT hPC (by omega) (fun q => by rw [app_er] at q ⊢; exact hgV.b200 (by omega) (by omega) q)
                      refine jblk hF [(.aload_n 0, 1), (.iconst 3, 1)] (by decide +kernel) (pc' := 254) (lo' := [(4, (0, m_15 35 15)), (3, (0, 1)), (2, (0, v_17)), (1, (0, v_3)), (0, (2, 35))]) (st' := [(0, 3), (2, 35)]) rfl ?_
                      refine jcallV hF (c_X12_say hG hS hR_m_78 3 (by omega)) MW_X12_say 13 (by decide) (by exact hS.k35) wd_1840 wd_1842 wd_p57 (by decide +kernel) [] rfl rfl (rmI (by omega) (by decide)) (Nat.le_of_ble_eq_true rfl) ⟨Nat.le_of_ble_eq_true rfl, Nat.le_of_ble_eq_true rfl⟩ (kMV (fun m_80 h_81 => ?_))
                      obtain ⟨hR_m_80, h_81⟩ := h_81
                      have hS6 := (hC6.weak (d' := -1 + 1) (Int.le_refl _) (by omega)).say 3
                      rw [← h_81, app_say] at hS6
                      refine jvret hF hr (by decide +kernel) ?_
                      exact lMV ⟨hR_m_80, by (rw [hcf]; unfold finC; rw [if_neg (show ¬ (condP (mem 39) (mem 35 11) 6 (skp (mem 39) (mem 35 11) (skp (mem 39) (mem 35 11) (skp (mem 39) (mem 35 11) (mem 35 12) + 1) + 1))).1 ≠ -1 by omega), if_neg (show ¬ chr (mem 39) (mem 35 11) (skp (mem 39) (mem 35 11) (condP (mem 39) (mem 35 11) 6 (skp (mem 39) (mem 35 11) (skp (mem 39) (mem 35 11) (skp (mem 39) (mem 35 11) (mem 35 12) + 1) + 1))).2.1) ≠ 63 by rw [← hv5]; omega)]; by_cases e6 : (sumP (mem 39) (mem 35 11) 6 (skp (mem 39) (mem 35 11) (condP (mem 39) (mem 35 11) 6 (skp (mem 39) (mem 35 11) (skp (mem 39) (mem 35 11) (skp (mem 39) (mem 35 11) (mem 35 12) + 1) + 1))).2.1 + 1)).1 = -1; (rw [if_neg (show ¬ (sumP (mem 39) (mem 35 11) 6 (skp (mem 39) (mem 35 11) (condP (mem 39) (mem 35 11) 6 (skp (mem 39) (mem 35 11) (skp (mem 39) (mem 35 11) (skp (mem 39) (mem 35 11) (mem 35 12) + 1) + 1))).2.1 + 1)).1 ≠ -1 by omega), ec_ok]; rw [bnd_is e6] at hS6; unfold enC; rw [← hv]; simpa [okP] using hS6); (rw [if_pos e6, ec_er e6]; rw [bnd_no e6] at hS6; exact hS6))⟩
                    · refine jvret hF hr (by decide +kernel) ?_
                      exact lMV ⟨hR_m_71, by first | (exfalso; omega) | (rw [hcf]; unfold finC; rw [if_pos (show (condP (mem 39) (mem 35 11) 6 (skp (mem 39) (mem 35 11) (skp (mem 39) (mem 35 11) (skp (mem 39) (mem 35 11) (mem 35 12) + 1) + 1))).1 ≠ -1 by omega), ec_er (by omega)]; exact (hF2.er (by rw [app_er]; omega) (by rw [app_er]; rfl)).weak (by omega) (by omega)) | (rw [hcf]; unfold finC; rw [if_neg (show ¬ (condP (mem 39) (mem 35 11) 6 (skp (mem 39) (mem 35 11) (skp (mem 39) (mem 35 11) (skp (mem 39) (mem 35 11) (mem 35 12) + 1) + 1))).1 ≠ -1 by omega), if_pos (show chr (mem 39) (mem 35 11) (skp (mem 39) (mem 35 11) (condP (mem 39) (mem 35 11) 6 (skp (mem 39) (mem 35 11) (skp (mem 39) (mem 35 11) (skp (mem 39) (mem 35 11) (mem 35 12) + 1) + 1))).2.1) ≠ 63 by rw [← hv5]; omega), ec_er (by omega), hbb5]; exact (h5.bad (by omega) (by omega)).weak (by omega) (by omega))⟩
                  · refine jblk hF [(.aload_n 0, 1)] (by decide +kernel) (pc' := 221) (lo' := [(4, (0, m_15 35 15)), (3, (0, 1)), (2, (0, v_17)), (1, (0, v_3)), (0, (2, 35))]) (st' := [(2, 35)]) rfl ?_
                    refine jcallV hF (c_X12_bad hG hS hR_m_71 (by omega)) MW_X12_bad 13 (by decide) (by exact hS.k35) wd_1836 wd_1838 wd_p56 (by decide +kernel) [] rfl rfl (rmI (by omega) (by decide)) (Nat.le_of_ble_eq_true rfl) ⟨Nat.le_of_ble_eq_true rfl, Nat.le_of_ble_eq_true rfl⟩ (kMV (fun m_82 h_83 => ?_))
                    obtain ⟨hR_m_82, h_83⟩ := h_83
                    have hbb5 := h_83.1 (by omega)
                    have g13b : m_82 35 13 = skp (mem 39) (mem 35 11) (condP (mem 39) (mem 35 11) 6 (skp (mem 39) (mem 35 11) (skp (mem 39) (mem 35 11) (skp (mem 39) (mem 35 11) (mem 35 12) + 1) + 1))).2.1 := by rw [hbb5, s2_s]; exact (h5.2.2.1 rfl).2.1
                    refine jblk hF [(.aload_n 0, 1)] (by decide +kernel) (pc' := 225) (lo' := [(4, (0, m_15 35 15)), (3, (0, 1)), (2, (0, v_17)), (1, (0, v_3)), (0, (2, 35))]) (st' := [(2, 35)]) rfl ?_
                    refine jget hF 13 13 0 13 rfl (by decide) (by decide) rfl wd_1476 (by decide +kernel) (by exact hS.k35) ?_
                    refine jblk hF [(.iconst (-1), 1)] (by decide +kernel) (pc' := 229) (lo' := [(4, (0, m_15 35 15)), (3, (0, 1)), (2, (0, v_17)), (1, (0, v_3)), (0, (2, 35))]) (st' := [(0, (-1)), (0, m_82 35 13)]) rfl ?_
                    refine jicmp_eq hF (off := 4) 233 (by decide +kernel) (by decide) (by omega) (by decide) (fun h_84 => ?_) (fun h_84 => ?_)
                    · exfalso; omega
                    · refine jvret hF hr (by decide +kernel) ?_
                      exact lMV ⟨hR_m_82, by first | (exfalso; omega) | (rw [hcf]; unfold finC; rw [if_pos (show (condP (mem 39) (mem 35 11) 6 (skp (mem 39) (mem 35 11) (skp (mem 39) (mem 35 11) (skp (mem 39) (mem 35 11) (mem 35 12) + 1) + 1))).1 ≠ -1 by omega), ec_er (by omega)]; exact (hF2.er (by rw [app_er]; omega) (by rw [app_er]; rfl)).weak (by omega) (by omega)) | (rw [hcf]; unfold finC; rw [if_neg (show ¬ (condP (mem 39) (mem 35 11) 6 (skp (mem 39) (mem 35 11) (skp (mem 39) (mem 35 11) (skp (mem 39) (mem 35 11) (mem 35 12) + 1) + 1))).1 ≠ -1 by omega), if_pos (show chr (mem 39) (mem 35 11) (skp (mem 39) (mem 35 11) (condP (mem 39) (mem 35 11) 6 (skp (mem 39) (mem 35 11) (skp (mem 39) (mem 35 11) (skp (mem 39) (mem 35 11) (mem 35 12) + 1) + 1))).2.1) ≠ 63 by rw [← hv5]; omega), ec_er (by omega), hbb5]; exact (h5.bad (by omega) (by omega)).weak (by omega) (by omega))⟩
              · refine jif_ne hF (off := 84) 198 (by decide +kernel) (by decide) (by decide) (fun h => absurd h (by decide)) (fun _ => ?_)
                refine jblk hF [(.aload_n 0, 1)] (by decide +kernel) (pc' := 118) (lo' := [(4, (0, m_15 35 15)), (3, (0, 1)), (2, (0, v_17)), (1, (0, v_3)), (0, (2, 35))]) (st' := [(2, 35)]) rfl ?_
                refine jget hF 13 15 0 15 rfl (by decide) (by decide) rfl wd_1478 (by decide +kernel) (by exact hS.k35) ?_
                refine jblk hF [(.iconst 1, 1), (.isub, 1), (.istore 5, 2)] (by decide +kernel) (pc' := 125) (lo' := [(5, (0, (m_62 35 15) - 1)), (4, (0, m_15 35 15)), (3, (0, 1)), (2, (0, v_17)), (1, (0, v_3)), (0, (2, 35))]) (st' := []) rfl ?_
                have L_87 : ∀ (fu_88 : Nat) (lb : Int) (fr : Int) (kk : Int) (m3 : Int → Int → Int) (mb : Int → Int → Int), (SR m3) → (PS mem mb 6 (0 + 3) 0 (okP (skp (mem 39) (mem 35 11) (sumP (mem 39) (mem 35 11) 6 (skp (mem 39) (mem 35 11) (skp (mem 39) (mem 35 11) (skp (mem 39) (mem 35 11) (mem 35 12) + 1) + 1))).2.1) (lb :: (sumP (mem 39) (mem 35 11) 6 (skp (mem 39) (mem 35 11) (skp (mem 39) (mem 35 11) (skp (mem 39) (mem 35 11) (mem 35 12) + 1) + 1))).2.2))) → (lb = chr (mem 39) (mem 35 11) (skp (mem 39) (mem 35 11) (mem 35 12))) → (fr = mem 35 15 + 1 ∧ mem 35 15 ≤ kk ∧ kk ≤ mb 35 15 - 1 ∧ mb 35 15 ≤ 335 ∧ 0 ≤ mem 35 15) → (∀ b j : Int, b ≠ 40 → m3 b j = mb b j) → (∀ j : Int, j ≤ kk + 3 → m3 40 j = mb 40 j) → (∀ j : Int, kk < j → j < mb 35 15 → m3 40 (j + 3) = mb 40 j) →  (kk + 1).toNat < fu_88 → J z g 6 0 0 (QM z g 0 0 (pMV (fun mem' => SR mem' ∧ (PS mem mem' 6 (-1) 0 (ecR (clP (mem 39) (mem 35 11) (mem 35 12))))) kd ln sz)) 125 [(0, (2, 35)), (1, (0, lb)), (2, (0, v_17)), (3, (0, 1)), (4, (0, fr)), (5, (0, kk))] [] kd ln m3 sz := by
                  intro fu_88
                  induction fu_88 with
                  | zero => intro lb fr kk m3 mb _ _ _ _ _ _ _ hm; omega
                  | succ fu_88 ih_86 =>
                    intro lb fr kk m3 mb hR_m3 hmb hlb hfr hsh1 hsh2 hsh3 hm
                    have hm15 := hsh1 35 15 (by decide)
                    refine jblk hF [(.iload 5, 2), (.iload 4, 2)] (by decide +kernel) (pc' := 129) (lo' := [(0, (2, 35)), (1, (0, lb)), (2, (0, v_17)), (3, (0, 1)), (4, (0, fr)), (5, (0, kk))]) (st' := [(0, fr), (0, kk)]) rfl ?_
                    refine jicmp_lt hF (off := 25) 154 (by decide +kernel) (by decide) (by omega) (by omega) (fun h_89 => ?_) (fun h_89 => ?_)
                    · refine jblk hF [(.aload_n 0, 1)] (by decide +kernel) (pc' := 155) (lo' := [(0, (2, 35)), (1, (0, lb)), (2, (0, v_17)), (3, (0, 1)), (4, (0, fr)), (5, (0, kk))]) (st' := [(2, 35)]) rfl ?_
                      refine jget hF 13 8 2 8 rfl (by decide) (by decide) rfl wd_1471 (by decide +kernel) (by exact hS.k35) ?_
                      rw [SR.r8 hR_m3]
                      refine jblk hF [(.iload 4, 2), (.iconst 0, 1)] (by decide +kernel) (pc' := 161) (lo' := [(0, (2, 35)), (1, (0, lb)), (2, (0, v_17)), (3, (0, 1)), (4, (0, fr)), (5, (0, kk))]) (st' := [(0, 0), (0, fr), (2, 40)]) rfl ?_
                      refine jiast hF (by decide +kernel) (by decide) (by exact hS.k40) (by omega) (by have := hS.l40; omega) ?_
                      refine jblk hF [(.aload_n 0, 1)] (by decide +kernel) (pc' := 163) (lo' := [(0, (2, 35)), (1, (0, lb)), (2, (0, v_17)), (3, (0, 1)), (4, (0, fr)), (5, (0, kk))]) (st' := [(2, 35)]) rfl ?_
                      refine jget hF 13 8 2 8 rfl (by decide) (by decide) rfl wd_1471 (by decide +kernel) (by exact hS.k35) ?_
                      rw [SR.r8 (SR.s hR_m3 (Or.inl (by decide)))]
                      refine jblk hF [(.iload 4, 2), (.iconst 1, 1), (.iadd, 1), (.iconst 1, 1)] (by decide +kernel) (pc' := 171) (lo' := [(0, (2, 35)), (1, (0, lb)), (2, (0, v_17)), (3, (0, 1)), (4, (0, fr)), (5, (0, kk))]) (st' := [(0, 1), (0, fr + 1), (2, 40)]) rfl ?_
                      refine jiast hF (by decide +kernel) (by decide) (by exact hS.k40) (by omega) (by have := hS.l40; omega) ?_
                      refine jblk hF [(.aload_n 0, 1)] (by decide +kernel) (pc' := 173) (lo' := [(0, (2, 35)), (1, (0, lb)), (2, (0, v_17)), (3, (0, 1)), (4, (0, fr)), (5, (0, kk))]) (st' := [(2, 35)]) rfl ?_
                      refine jget hF 13 8 2 8 rfl (by decide) (by decide) rfl wd_1471 (by decide +kernel) (by exact hS.k35) ?_
                      rw [SR.r8 (SR.s (SR.s hR_m3 (Or.inl (by decide))) (Or.inl (by decide)))]
                      refine jblk hF [(.iload 4, 2), (.iconst 2, 1), (.iadd, 1), (.iconst 2, 1)] (by decide +kernel) (pc' := 181) (lo' := [(0, (2, 35)), (1, (0, lb)), (2, (0, v_17)), (3, (0, 1)), (4, (0, fr)), (5, (0, kk))]) (st' := [(0, 2), (0, fr + 2), (2, 40)]) rfl ?_
                      refine jiast hF (by decide +kernel) (by decide) (by exact hS.k40) (by omega) (by have := hS.l40; omega) ?_
                      refine jblk hF [(.aload_n 0, 1), (.dup, 1)] (by decide +kernel) (pc' := 184) (lo' := [(0, (2, 35)), (1, (0, lb)), (2, (0, v_17)), (3, (0, 1)), (4, (0, fr)), (5, (0, kk))]) (st' := [(2, 35), (2, 35)]) rfl ?_
                      refine jget hF 13 15 0 15 rfl (by decide) (by decide) rfl wd_1478 (by decide +kernel) (by exact hS.k35) ?_
                      rw [show (set2 (set2 (set2 m3 40 fr 0) 40 (fr + 1) 1) 40 (fr + 2) 2) 35 15 = m3 35 15 from ((s2_a (by decide)).trans ((s2_a (by decide)).trans (s2_a (by decide))))]
                      refine jblk hF [(.iconst 3, 1), (.iadd, 1)] (by decide +kernel) (pc' := 189) (lo' := [(0, (2, 35)), (1, (0, lb)), (2, (0, v_17)), (3, (0, 1)), (4, (0, fr)), (5, (0, kk))]) (st' := [(0, (m3 35 15) + 3), (2, 35)]) rfl ?_
                      refine jput hF 13 15 0 15 rfl (by decide) (by decide) rfl wd_1478 (by decide +kernel) rfl (Or.inl rfl) (by exact hS.k35) (fun h => by cases h) ?_
                      have hSh := PS.shift (mm := (set2 (set2 (set2 (set2 m3 40 fr 0) 40 (fr + 1) 1) 40 (fr + 2) 2) 35 15 ((m3 35 15) + 3))) (d := 0) hmb (fun b j q1 q2 => by unfold set2; rw [if_neg (by omega), if_neg (by omega), if_neg (by omega), if_neg (by omega)]; exact hsh1 b j q2) (by rw [s2_s, hsh1 35 15 (by decide)]) (fun j q => by rw [s2_a (by decide), s2_k (by omega), s2_k (by omega), s2_k (by omega)]; exact hsh2 j (by omega)) ⟨by rw [s2_a (by decide), s2_k (by omega), s2_k (by omega), show mem 35 15 + 1 = fr by omega, s2_s], by rw [s2_a (by decide), s2_k (by omega), show mem 35 15 + 2 = fr + 1 by omega, s2_s], by rw [s2_a (by decide), show mem 35 15 + 3 = fr + 2 by omega, s2_s]⟩ (fun j q1 q2 => by rw [s2_a (by decide), s2_k (by omega), s2_k (by omega), s2_k (by omega)]; exact hsh3 j (by omega) q2)
                      have hShb := hSh.bdz hPT hPC (by omega) (fun q => absurd rfl q)
                      refine jblk hF [(.aload_n 0, 1), (.iconst 3, 1)] (by decide +kernel) (pc' := 194) (lo' := [(0, (2, 35)), (1, (0, lb)), (2, (0, v_17)), (3, (0, 1)), (4, (0, fr)), (5, (0, kk))]) (st' := [(0, 3), (2, 35)]) rfl ?_
                      refine jcallV hF (c_X12_say hG hS (SR.s (SR.s (SR.s (SR.s hR_m3 (Or.inl (by decide))) (Or.inl (by decide))) (Or.inl (by decide))) (Or.inr (by decide))) 3 (by omega)) MW_X12_say 13 (by decide) (by exact hS.k35) wd_1840 wd_1842 wd_p57 (by decide +kernel) [] rfl rfl (rmI (by omega) (by decide)) (Nat.le_of_ble_eq_true rfl) ⟨Nat.le_of_ble_eq_true rfl, Nat.le_of_ble_eq_true rfl⟩ (kMV (fun m_90 h_91 => ?_))
                      obtain ⟨hR_m_90, h_91⟩ := h_91
                      have hSf := (hSh.weak (d' := -1 + 1) (by omega) (by omega)).say 3
                      rw [← h_91, bnd_ok, hlb] at hSf
                      refine jvret hF hr (by decide +kernel) ?_
                      exact lMV ⟨hR_m_90, by (rw [hcl]; unfold bodC; rw [if_neg (show ¬ (chr (mem 39) (mem 35 11) (skp (mem 39) (mem 35 11) (skp (mem 39) (mem 35 11) (skp (mem 39) (mem 35 11) (mem 35 12) + 1) + 1)) = 33 ∨ chr (mem 39) (mem 35 11) (skp (mem 39) (mem 35 11) (skp (mem 39) (mem 35 11) (skp (mem 39) (mem 35 11) (mem 35 12) + 1) + 1)) = 40) by rw [← hv3]; omega), if_neg (show ¬ (sumP (mem 39) (mem 35 11) 6 (skp (mem 39) (mem 35 11) (skp (mem 39) (mem 35 11) (skp (mem 39) (mem 35 11) (mem 35 12) + 1) + 1))).1 ≠ -1 by omega), if_neg (show ¬ isSg (chr (mem 39) (mem 35 11) (skp (mem 39) (mem 35 11) (sumP (mem 39) (mem 35 11) 6 (skp (mem 39) (mem 35 11) (skp (mem 39) (mem 35 11) (skp (mem 39) (mem 35 11) (mem 35 12) + 1) + 1))).2.1)) by rw [← hv4]; assumption), ec_ok]; exact hSf)⟩
                    · refine jblk hF [(.aload_n 0, 1)] (by decide +kernel) (pc' := 133) (lo' := [(0, (2, 35)), (1, (0, lb)), (2, (0, v_17)), (3, (0, 1)), (4, (0, fr)), (5, (0, kk))]) (st' := [(2, 35)]) rfl ?_
                      refine jget hF 13 8 2 8 rfl (by decide) (by decide) rfl wd_1471 (by decide +kernel) (by exact hS.k35) ?_
                      rw [SR.r8 hR_m3]
                      refine jblk hF [(.iload 5, 2), (.iconst 3, 1), (.iadd, 1), (.aload_n 0, 1)] (by decide +kernel) (pc' := 141) (lo' := [(0, (2, 35)), (1, (0, lb)), (2, (0, v_17)), (3, (0, 1)), (4, (0, fr)), (5, (0, kk))]) (st' := [(2, 35), (0, kk + 3), (2, 40)]) rfl ?_
                      refine jget hF 13 8 2 8 rfl (by decide) (by decide) rfl wd_1471 (by decide +kernel) (by exact hS.k35) ?_
                      rw [SR.r8 hR_m3]
                      refine jblk hF [(.iload 5, 2)] (by decide +kernel) (pc' := 146) (lo' := [(0, (2, 35)), (1, (0, lb)), (2, (0, v_17)), (3, (0, 1)), (4, (0, fr)), (5, (0, kk))]) (st' := [(0, kk), (2, 40), (0, kk + 3), (2, 40)]) rfl ?_
                      refine jiald hF (by decide +kernel) (by exact hS.k40) (by omega) (by have := hS.l40; omega) ?_
                      refine jiast hF (by decide +kernel) (by decide) (by exact hS.k40) (by omega) (by have := hS.l40; omega) ?_
                      refine jblk hF [(.iinc 5 (-1), 3)] (by decide +kernel) (pc' := 151) (lo' := [(5, (0, kk + (-1))), (0, (2, 35)), (1, (0, lb)), (2, (0, v_17)), (3, (0, 1)), (4, (0, fr))]) (st' := []) rfl ?_
                      refine jgoto hF (off := (-26)) 125 (by decide +kernel) (by decide) ?_
                      refine jsub [1, 2, 3, 4, 5, 0] rfl ?_
                      refine ih_86 lb fr (kk + (-1)) (set2 m3 40 (kk + 3) (m3 40 kk)) mb ?_ ?_ ?_ ?_ ?_ ?_ ?_ ?_
                      · exact (SR.s hR_m3 (Or.inl (by decide)))
                      · exact hmb
                      · exact hlb
                      · omega
                      · intro b j q; rw [s2_a q]; exact hsh1 b j q
                      · intro j q; rw [s2_k (by omega)]; exact hsh2 j (by omega)
                      · (intro j q1 q2; by_cases e : j = kk; (rw [e, s2_s]; exact hsh2 kk (by omega)); (rw [s2_k (by omega)]; exact hsh3 j (by omega) q2))
                      · omega
                refine jsub [5, 4, 3, 2, 1, 0] rfl ?_
                refine L_87 _ v_3 (m_15 35 15) ((m_62 35 15) - 1) m_62 m_62 ?_ ?_ ?_ ?_ ?_ ?_ ?_ (Nat.lt_succ_self _)
                · exact hR_m_62
                · exact h4
                · exact hv
                · (have q15 := (h4.2.2.1 rfl).2.2.2.2.1; have q15b : m_62 35 15 = mem 35 15 + (((sumP (mem 39) (mem 35 11) 6 (skp (mem 39) (mem 35 11) (skp (mem 39) (mem 35 11) (skp (mem 39) (mem 35 11) (mem 35 12) + 1) + 1))).2.2.length + 1 : Nat) : Int) := q15; have hg9 := (hgS.1 hsr).2.2.1; omega)
                · intro b j _; rfl
                · intro j _; rfl
                · intro j q1 q2; omega
            · refine jvret hF hr (by decide +kernel) ?_
              exact lMV ⟨hR_m_59, by (rw [hcl]; unfold bodC; rw [if_neg (show ¬ (chr (mem 39) (mem 35 11) (skp (mem 39) (mem 35 11) (skp (mem 39) (mem 35 11) (skp (mem 39) (mem 35 11) (mem 35 12) + 1) + 1)) = 33 ∨ chr (mem 39) (mem 35 11) (skp (mem 39) (mem 35 11) (skp (mem 39) (mem 35 11) (skp (mem 39) (mem 35 11) (mem 35 12) + 1) + 1)) = 40) by rw [← hv3]; omega), if_pos (show (sumP (mem 39) (mem 35 11) 6 (skp (mem 39) (mem 35 11) (skp (mem 39) (mem 35 11) (skp (mem 39) (mem 35 11) (mem 35 12) + 1) + 1))).1 ≠ -1 by omega), ec_er (by omega)]; exact (hC.er (by rw [app_er]; omega) (by rw [app_er]; rfl)).weak (by omega) (by omega))⟩
      · refine jblk hF [(.aload_n 0, 1)] (by decide +kernel) (pc' := 42) (lo' := [(1, (0, v_3)), (0, (2, 35))]) (st' := [(2, 35)]) rfl ?_
        refine jcallV hF (c_X12_bad hG hS hR_m_9 (by omega)) MW_X12_bad 13 (by decide) (by exact hS.k35) wd_1836 wd_1838 wd_p56 (by decide +kernel) [] rfl rfl (rmI (by omega) (by decide)) (Nat.le_of_ble_eq_true rfl) ⟨Nat.le_of_ble_eq_true rfl, Nat.le_of_ble_eq_true rfl⟩ (kMV (fun m_92 h_93 => ?_))
        obtain ⟨hR_m_92, h_93⟩ := h_93
        have hbb2 := h_93.1 (by omega)
        refine jvret hF hr (by decide +kernel) ?_
        exact lMV ⟨hR_m_92, by (rw [show clP (mem 39) (mem 35 11) (mem 35 12) = erC (skp (mem 39) (mem 35 11) (skp (mem 39) (mem 35 11) (mem 35 12) + 1)) from (if_neg (show ¬ ¬ isLb (chr (mem 39) (mem 35 11) (skp (mem 39) (mem 35 11) (mem 35 12))) by rw [← hv]; omega)).trans (if_pos (show chr (mem 39) (mem 35 11) (skp (mem 39) (mem 35 11) (skp (mem 39) (mem 35 11) (mem 35 12) + 1)) ≠ 58 by rw [← hv2]; omega)), ec_er (by omega), hbb2]; exact (h2.bad (by omega) (by omega)).weak (by omega) (by omega))⟩
    · refine jif_ne hF (off := 8) 22 (by decide +kernel) (by decide) (by decide) (fun h => absurd h (by decide)) (fun _ => ?_)
      refine jblk hF [(.aload_n 0, 1)] (by decide +kernel) (pc' := 18) (lo' := [(1, (0, v_3)), (0, (2, 35))]) (st' := [(2, 35)]) rfl ?_
      refine jcallV hF (c_X12_bad hG hS hR_m_1 (by omega)) MW_X12_bad 13 (by decide) (by exact hS.k35) wd_1836 wd_1838 wd_p56 (by decide +kernel) [] rfl rfl (rmI (by omega) (by decide)) (Nat.le_of_ble_eq_true rfl) ⟨Nat.le_of_ble_eq_true rfl, Nat.le_of_ble_eq_true rfl⟩ (kMV (fun m_95 h_96 => ?_))
      obtain ⟨hR_m_95, h_96⟩ := h_96
      have hbb := h_96.1 (by omega)
      refine jvret hF hr (by decide +kernel) ?_
      exact lMV ⟨hR_m_95, by (rw [show clP (mem 39) (mem 35 11) (mem 35 12) = erC (skp (mem 39) (mem 35 11) (mem 35 12)) from if_pos (by rw [← hv]; omega), ec_er (by omega), hbb]; exact (hA.bad (by omega) (by omega)).weak (by omega) (by omega))⟩
set_option maxHeartbeats 4000000 in
set_option maxRecDepth 100000 in
theorem c_X12_fault {l : Launch} {g : GP} (hG : GH g) {kd : Int → Nat} {ln : Int → Int} {mem : Int → Int → Int} {sz : Nat} (hS : SK kd ln) (hR : SR mem) (hPT : PTX mem) : MT l g yX12_fault cX12_fault 1 (some .int) (28) 0 0 [(2, 35)] kd ln mem sz (pMR 0 (fun v mem' => SR mem' ∧ (v = (fauP (mem 39) (mem 35 11)).1 ∧ FPS mem mem')) kd ln sz) := by
  refine MT_of hG (by decide +kernel) (Nat.le_of_ble_eq_true rfl) (fun z hF hr hn => ?_)
  have hPT1 := hPT.2.1
  have hPTz : PTX (fzM mem) := hPT
  have hPCz : PC (fzM mem) ((6 : Nat) : Int) := ⟨rfl, Int.le_refl 0, hPT.1, rfl, Int.le_refl 0, (show (0 : Int) ≤ 2 * 0 + 1 by decide), by decide, by decide⟩
  obtain ⟨z39, z11, z12, z13, z14, z15⟩ := fzM_txt mem
  refine jblk hF [(.aload_n 0, 1), (.iconst 0, 1)] (by decide +kernel) (pc' := 2) (lo' := [(0, (2, 35))]) (st' := [(0, 0), (2, 35)]) rfl ?_
  refine jput hF 13 12 0 12 rfl (by decide) (by decide) rfl wd_1475 (by decide +kernel) rfl (Or.inl rfl) (by exact hS.k35) (fun h => by cases h) ?_
  refine jblk hF [(.aload_n 0, 1), (.iconst (-1), 1)] (by decide +kernel) (pc' := 7) (lo' := [(0, (2, 35))]) (st' := [(0, (-1)), (2, 35)]) rfl ?_
  refine jput hF 13 13 0 13 rfl (by decide) (by decide) rfl wd_1476 (by decide +kernel) rfl (Or.inl rfl) (by exact hS.k35) (fun h => by cases h) ?_
  refine jblk hF [(.aload_n 0, 1), (.iconst 0, 1)] (by decide +kernel) (pc' := 12) (lo' := [(0, (2, 35))]) (st' := [(0, 0), (2, 35)]) rfl ?_
  refine jput hF 13 14 0 14 rfl (by decide) (by decide) rfl wd_1477 (by decide +kernel) rfl (Or.inl rfl) (by exact hS.k35) (fun h => by cases h) ?_
  refine jblk hF [(.aload_n 0, 1), (.iconst 0, 1)] (by decide +kernel) (pc' := 17) (lo' := [(0, (2, 35))]) (st' := [(0, 0), (2, 35)]) rfl ?_
  refine jput hF 13 15 0 15 rfl (by decide) (by decide) rfl wd_1478 (by decide +kernel) rfl (Or.inl rfl) (by exact hS.k35) (fun h => by cases h) ?_
  refine jblk hF [(.aload_n 0, 1)] (by decide +kernel) (pc' := 21) (lo' := [(0, (2, 35))]) (st' := [(2, 35)]) rfl ?_
  refine jcallV hF (c_X12_clause hG hS (SR.s (SR.s (SR.s (SR.s hR (Or.inr (by decide))) (Or.inr (by decide))) (Or.inr (by decide))) (Or.inr (by decide))) (by exact hPTz) (by exact hPCz)) MW_X12_clause 13 (by decide) (by exact hS.k35) wd_1825 wd_1827 wd_p54 (by decide +kernel) [] rfl rfl (rmI (by omega) (by decide)) (Nat.le_of_ble_eq_true rfl) ⟨Nat.le_of_ble_eq_true rfl, Nat.le_of_ble_eq_true rfl⟩ (kMV (fun m_1 h_2 => ?_))
  obtain ⟨hR_m_1, h_2⟩ := h_2
  have h0 : PS (fzM mem) m_1 6 (-1) 0 (ecR (clP (mem 39) (mem 35 11) 0)) := h_2
  have L_4 : ∀ (fu_5 : Nat)  (m3 : Int → Int → Int) (rr : PR) (k : Nat), (SR m3) → (PS (fzM mem) m3 6 (-1) 0 rr) → (FJ (mem 39) (mem 35 11) (fauP (mem 39) (mem 35 11)) k rr) →  k < fu_5 → J z g 1 0 0 (QM z g 0 0 (pMR 0 (fun v mem' => SR mem' ∧ (v = (fauP (mem 39) (mem 35 11)).1 ∧ FPS mem mem')) kd ln sz)) 24 [(0, (2, 35))] [] kd ln m3 sz := by
    intro fu_5
    induction fu_5 with
    | zero => intro m3 rr k _ _ _ hm; omega
    | succ fu_5 ih_3 =>
      intro m3 rr k hR_m3 hps hj hm
      have h13 := hps.w13
      have hb3 := hps.bdz hPTz hPCz (by omega) (fun q => by have := hj.2.1 q; omega)
      have hPTm := hps.ptx hPTz
      obtain ⟨q39, q11⟩ := hps.txt
      refine jblk hF [(.aload_n 0, 1)] (by decide +kernel) (pc' := 25) (lo' := [(0, (2, 35))]) (st' := [(2, 35)]) rfl ?_
      refine jget hF 13 13 0 13 rfl (by decide) (by decide) rfl wd_1476 (by decide +kernel) (by exact hS.k35) ?_
      refine jblk hF [(.iconst (-1), 1)] (by decide +kernel) (pc' := 29) (lo' := [(0, (2, 35))]) (st' := [(0, (-1)), (0, m3 35 13)]) rfl ?_
      refine jicmp_ne hF (off := 29) 58 (by decide +kernel) (by decide) (by omega) (by decide) (fun h_6 => ?_) (fun h_6 => ?_)
      · refine jblk hF [(.aload_n 0, 1)] (by decide +kernel) (pc' := 59) (lo' := [(0, (2, 35))]) (st' := [(2, 35)]) rfl ?_
        refine jget hF 13 13 0 13 rfl (by decide) (by decide) rfl wd_1476 (by decide +kernel) (by exact hS.k35) ?_
        refine jblk hF [(.iconst (-1), 1)] (by decide +kernel) (pc' := 63) (lo' := [(0, (2, 35))]) (st' := [(0, (-1)), (0, m3 35 13)]) rfl ?_
        refine jicmp_ne hF (off := 15) 78 (by decide +kernel) (by decide) (by omega) (by decide) (fun h_7 => ?_) (fun h_7 => ?_)
        · refine jblk hF [(.aload_n 0, 1)] (by decide +kernel) (pc' := 79) (lo' := [(0, (2, 35))]) (st' := [(2, 35)]) rfl ?_
          refine jget hF 13 13 0 13 rfl (by decide) (by decide) rfl wd_1476 (by decide +kernel) (by exact hS.k35) ?_
          refine jiret hF hr (by decide +kernel) ?_
          exact lMR ⟨hR_m3, by first
              | (exfalso; omega)
              | (have e1 : rr.1 ≠ -1 := (by omega); have hff := hj.fail e1; exact ⟨by rw [hff]; exact h13, (hps.er (e' := 0) e1 hff).fps (by omega)⟩)
              | (have hf2 : (fauP (mem 39) (mem 35 11)) = okP (skp (mem 39) (mem 35 11) rr.2.1) rr.2.2 := (by rw [hst, if_pos (by rw [← hv7]; omega)]); rw [hf2]; exact ⟨l13r, by unfold FPS; rw [hf2]; exact (by have h9 := (show PS (fzM mem) _ 6 (-1) 0 (fauP (mem 39) (mem 35 11)) by rw [hf2]; exact hL7).fps (by have := hL7.bdz hPTz hPCz (by omega) (fun q => absurd rfl q); omega); unfold FPS at h9; rw [hf2] at h9; exact h9)⟩)
              | (have hf2 : (fauP (mem 39) (mem 35 11)) = erP (skp (mem 39) (mem 35 11) rr.2.1) := (by rw [hst, if_neg (by rw [← hv7]; omega)]); exact ⟨by rw [hf2]; exact g13, by rw [hbb]; exact (show PS (fzM mem) _ 6 (-1) 0 (fauP (mem 39) (mem 35 11)) by rw [hf2]; exact hL7.bad (by omega) (by omega)).fps (by rw [s2_k (by decide)]; have := hL7.bdz hPTz hPCz (by omega) (fun q => absurd rfl q); omega)⟩)⟩
        · exfalso; omega
      · refine jblk hF [(.aload_n 0, 1)] (by decide +kernel) (pc' := 33) (lo' := [(0, (2, 35))]) (st' := [(2, 35)]) rfl ?_
        refine jcallV hF (c_X12_look hG hS hR_m3 (by first | exact hPT | assumption) (by omega)) MW_X12_look 13 (by decide) (by exact hS.k35) wd_1829 wd_1831 wd_p55 (by decide +kernel) [] rfl rfl (rmI (by omega) (by decide)) (Nat.le_of_ble_eq_true rfl) ⟨Nat.le_of_ble_eq_true rfl, Nat.le_of_ble_eq_true rfl⟩ (kMR (fun v_10 m_8 h_9 => ?_))
        obtain ⟨hR_m_8, h_9⟩ := h_9
        obtain ⟨hv, hl⟩ := h_9
        have hrr : rr.1 = -1 := by omega
        obtain ⟨p1, p2, p3⟩ := hj.1 hrr
        have hL := (hps.look (by omega) hl).okI hrr
        rw [z39, z11] at hL
        have l13w : m_8 35 13 = -1 := hL.w13
        rw [q39, q11, z39, z11, (hps.2.2.1 hrr).2.1] at hv
        have hsk := skp_f (mem 39) (mem 35 11) rr.2.1
        have hcb : -1 ≤ v_10 ∧ v_10 ≤ 255 := by rw [hv]; unfold chr; split; (have := hPT.2.2 _ (by omega : 0 ≤ skp (mem 39) (mem 35 11) rr.2.1) (by omega); omega); omega
        refine jblk hF [(.bipush 59, 2)] (by decide +kernel) (pc' := 38) (lo' := [(0, (2, 35))]) (st' := [(0, 59), (0, v_10)]) rfl ?_
        refine jicmp_ne hF (off := 20) 58 (by decide +kernel) (by decide) (by omega) (by decide) (fun h_11 => ?_) (fun h_11 => ?_)
        · refine jblk hF [(.aload_n 0, 1)] (by decide +kernel) (pc' := 59) (lo' := [(0, (2, 35))]) (st' := [(2, 35)]) rfl ?_
          refine jget hF 13 13 0 13 rfl (by decide) (by decide) rfl wd_1476 (by decide +kernel) (by exact hS.k35) ?_
          refine jblk hF [(.iconst (-1), 1)] (by decide +kernel) (pc' := 63) (lo' := [(0, (2, 35))]) (st' := [(0, (-1)), (0, m_8 35 13)]) rfl ?_
          refine jicmp_ne hF (off := 15) 78 (by decide +kernel) (by decide) (by omega) (by decide) (fun h_12 => ?_) (fun h_12 => ?_)
          · refine jblk hF [(.aload_n 0, 1)] (by decide +kernel) (pc' := 79) (lo' := [(0, (2, 35))]) (st' := [(2, 35)]) rfl ?_
            refine jget hF 13 13 0 13 rfl (by decide) (by decide) rfl wd_1476 (by decide +kernel) (by exact hS.k35) ?_
            refine jiret hF hr (by decide +kernel) ?_
            exact lMR ⟨hR_m_8, by first
                | (exfalso; omega)
                | (have e1 : rr.1 ≠ -1 := (by omega); have hff := hj.fail e1; exact ⟨by rw [hff]; exact h13, (hps.er (e' := 0) e1 hff).fps (by omega)⟩)
                | (have hf2 : (fauP (mem 39) (mem 35 11)) = okP (skp (mem 39) (mem 35 11) rr.2.1) rr.2.2 := (by rw [hst, if_pos (by rw [← hv7]; omega)]); rw [hf2]; exact ⟨l13r, by unfold FPS; rw [hf2]; exact (by have h9 := (show PS (fzM mem) _ 6 (-1) 0 (fauP (mem 39) (mem 35 11)) by rw [hf2]; exact hL7).fps (by have := hL7.bdz hPTz hPCz (by omega) (fun q => absurd rfl q); omega); unfold FPS at h9; rw [hf2] at h9; exact h9)⟩)
                | (have hf2 : (fauP (mem 39) (mem 35 11)) = erP (skp (mem 39) (mem 35 11) rr.2.1) := (by rw [hst, if_neg (by rw [← hv7]; omega)]); exact ⟨by rw [hf2]; exact g13, by rw [hbb]; exact (show PS (fzM mem) _ 6 (-1) 0 (fauP (mem 39) (mem 35 11)) by rw [hf2]; exact hL7.bad (by omega) (by omega)).fps (by rw [s2_k (by decide)]; have := hL7.bdz hPTz hPCz (by omega) (fun q => absurd rfl q); omega)⟩)⟩
          · have hL0 : rr.1 = -1 := by omega
            have l13q : m_8 35 13 = -1 := hL.w13
            have l12q : m_8 35 12 = skp (mem 39) (mem 35 11) rr.2.1 := (hL.2.2.1 rfl).2.1
            have hLPT := hL.ptx hPTz
            obtain ⟨t39, t11⟩ := hL.txt
            have hskL := hsk.2.1 p2
            refine jblk hF [(.aload_n 0, 1)] (by decide +kernel) (pc' := 67) (lo' := [(0, (2, 35))]) (st' := [(2, 35)]) rfl ?_
            refine jcallV hF (c_X12_look hG hS hR_m_8 (by first | exact hPT | assumption) (by omega)) MW_X12_look 13 (by decide) (by exact hS.k35) wd_1829 wd_1831 wd_p55 (by decide +kernel) [] rfl rfl (rmI (by omega) (by decide)) (Nat.le_of_ble_eq_true rfl) ⟨Nat.le_of_ble_eq_true rfl, Nat.le_of_ble_eq_true rfl⟩ (kMR (fun v_15 m_13 h_14 => ?_))
            obtain ⟨hR_m_13, h_14⟩ := h_14
            obtain ⟨hv7, hl7⟩ := h_14
            have hL7 := hL.look (by omega) hl7
            rw [bnd_ok, z39, z11, skp_skp] at hL7
            rw [t39, t11, z39, z11, l12q, skp_skp] at hv7
            have l13r : m_13 35 13 = -1 := hL7.w13
            have hcb7 : -1 ≤ v_15 ∧ v_15 ≤ 255 := by rw [hv7, ← hv]; exact hcb
            have hst := hj.stop hrr (by rw [← hv]; omega)
            refine jblk hF [(.iconst (-1), 1)] (by decide +kernel) (pc' := 71) (lo' := [(0, (2, 35))]) (st' := [(0, (-1)), (0, v_15)]) rfl ?_
            refine jicmp_eq hF (off := 7) 78 (by decide +kernel) (by decide) (by omega) (by decide) (fun h_16 => ?_) (fun h_16 => ?_)
            · refine jblk hF [(.aload_n 0, 1)] (by decide +kernel) (pc' := 79) (lo' := [(0, (2, 35))]) (st' := [(2, 35)]) rfl ?_
              refine jget hF 13 13 0 13 rfl (by decide) (by decide) rfl wd_1476 (by decide +kernel) (by exact hS.k35) ?_
              refine jiret hF hr (by decide +kernel) ?_
              exact lMR ⟨hR_m_13, by first
                  | (exfalso; omega)
                  | (have e1 : rr.1 ≠ -1 := (by omega); have hff := hj.fail e1; exact ⟨by rw [hff]; exact h13, (hps.er (e' := 0) e1 hff).fps (by omega)⟩)
                  | (have hf2 : (fauP (mem 39) (mem 35 11)) = okP (skp (mem 39) (mem 35 11) rr.2.1) rr.2.2 := (by rw [hst, if_pos (by rw [← hv7]; omega)]); rw [hf2]; exact ⟨l13r, by unfold FPS; rw [hf2]; exact (by have h9 := (show PS (fzM mem) _ 6 (-1) 0 (fauP (mem 39) (mem 35 11)) by rw [hf2]; exact hL7).fps (by have := hL7.bdz hPTz hPCz (by omega) (fun q => absurd rfl q); omega); unfold FPS at h9; rw [hf2] at h9; exact h9)⟩)
                  | (have hf2 : (fauP (mem 39) (mem 35 11)) = erP (skp (mem 39) (mem 35 11) rr.2.1) := (by rw [hst, if_neg (by rw [← hv7]; omega)]); exact ⟨by rw [hf2]; exact g13, by rw [hbb]; exact (show PS (fzM mem) _ 6 (-1) 0 (fauP (mem 39) (mem 35 11)) by rw [hf2]; exact hL7.bad (by omega) (by omega)).fps (by rw [s2_k (by decide)]; have := hL7.bdz hPTz hPCz (by omega) (fun q => absurd rfl q); omega)⟩)⟩
            · refine jblk hF [(.aload_n 0, 1)] (by decide +kernel) (pc' := 75) (lo' := [(0, (2, 35))]) (st' := [(2, 35)]) rfl ?_
              refine jcallV hF (c_X12_bad hG hS hR_m_13 (by omega)) MW_X12_bad 13 (by decide) (by exact hS.k35) wd_1836 wd_1838 wd_p56 (by decide +kernel) [] rfl rfl (rmI (by omega) (by decide)) (Nat.le_of_ble_eq_true rfl) ⟨Nat.le_of_ble_eq_true rfl, Nat.le_of_ble_eq_true rfl⟩ (kMV (fun m_17 h_18 => ?_))
              obtain ⟨hR_m_17, h_18⟩ := h_18
              have hbb := h_18.1 (by omega)
              have g13 : m_17 35 13 = skp (mem 39) (mem 35 11) rr.2.1 := by rw [hbb, s2_s]; exact (hL7.2.2.1 rfl).2.1
              refine jblk hF [(.aload_n 0, 1)] (by decide +kernel) (pc' := 79) (lo' := [(0, (2, 35))]) (st' := [(2, 35)]) rfl ?_
              refine jget hF 13 13 0 13 rfl (by decide) (by decide) rfl wd_1476 (by decide +kernel) (by exact hS.k35) ?_
              refine jiret hF hr (by decide +kernel) ?_
              exact lMR ⟨hR_m_17, by first
                  | (exfalso; omega)
                  | (have e1 : rr.1 ≠ -1 := (by omega); have hff := hj.fail e1; exact ⟨by rw [hff]; exact h13, (hps.er (e' := 0) e1 hff).fps (by omega)⟩)
                  | (have hf2 : (fauP (mem 39) (mem 35 11)) = okP (skp (mem 39) (mem 35 11) rr.2.1) rr.2.2 := (by rw [hst, if_pos (by rw [← hv7]; omega)]); rw [hf2]; exact ⟨l13r, by unfold FPS; rw [hf2]; exact (by have h9 := (show PS (fzM mem) _ 6 (-1) 0 (fauP (mem 39) (mem 35 11)) by rw [hf2]; exact hL7).fps (by have := hL7.bdz hPTz hPCz (by omega) (fun q => absurd rfl q); omega); unfold FPS at h9; rw [hf2] at h9; exact h9)⟩)
                  | (have hf2 : (fauP (mem 39) (mem 35 11)) = erP (skp (mem 39) (mem 35 11) rr.2.1) := (by rw [hst, if_neg (by rw [← hv7]; omega)]); exact ⟨by rw [hf2]; exact g13, by rw [hbb]; exact (show PS (fzM mem) _ 6 (-1) 0 (fauP (mem 39) (mem 35 11)) by rw [hf2]; exact hL7.bad (by omega) (by omega)).fps (by rw [s2_k (by decide)]; have := hL7.bdz hPTz hPCz (by omega) (fun q => absurd rfl q); omega)⟩)⟩
        · obtain ⟨hk1, hlt, hj2⟩ := hj.next hrr (by rw [← hv]; omega)
          have hV := hL.adv (show _ < mem 35 11 from hlt)
          refine jblk hF [(.aload_n 0, 1), (.dup, 1)] (by decide +kernel) (pc' := 43) (lo' := [(0, (2, 35))]) (st' := [(2, 35), (2, 35)]) rfl ?_
          refine jget hF 13 12 0 12 rfl (by decide) (by decide) rfl wd_1475 (by decide +kernel) (by exact hS.k35) ?_
          refine jblk hF [(.iconst 1, 1), (.iadd, 1)] (by decide +kernel) (pc' := 48) (lo' := [(0, (2, 35))]) (st' := [(0, (m_8 35 12) + 1), (2, 35)]) rfl ?_
          refine jput hF 13 12 0 12 rfl (by decide) (by decide) rfl wd_1475 (by decide +kernel) rfl (Or.inl rfl) (by exact hS.k35) (fun h => by cases h) ?_
          obtain ⟨o39, o11⟩ := hV.txt
          have o12 : (set2 m_8 35 12 ((m_8 35 12) + 1)) 35 12 = skp (mem 39) (mem 35 11) rr.2.1 + 1 := (hV.2.2.1 rfl).2.1
          have oPT := hV.ptx hPTz
          have oPC : PC (set2 m_8 35 12 ((m_8 35 12) + 1)) ((6 : Nat) : Int) := hV.pc rfl hPCz (by omega) (by omega) (by omega)
          refine jblk hF [(.aload_n 0, 1)] (by decide +kernel) (pc' := 52) (lo' := [(0, (2, 35))]) (st' := [(2, 35)]) rfl ?_
          refine jcallV hF (c_X12_clause hG hS (SR.s hR_m_8 (Or.inr (by decide))) (by assumption) (by assumption)) MW_X12_clause 13 (by decide) (by exact hS.k35) wd_1825 wd_1827 wd_p54 (by decide +kernel) [] rfl rfl (rmI (by omega) (by decide)) (Nat.le_of_ble_eq_true rfl) ⟨Nat.le_of_ble_eq_true rfl, Nat.le_of_ble_eq_true rfl⟩ (kMV (fun m_19 h_20 => ?_))
          obtain ⟨hR_m_19, h_20⟩ := h_20
          have hC := hV.call rfl h_20
          rw [o39, o11, o12, z39, z11] at hC
          refine jgoto hF (off := (-31)) 24 (by decide +kernel) (by decide) ?_
          refine jsub [0] rfl ?_
          refine ih_3 m_19 (bnd (ecR (clP (mem 39) (mem 35 11) (skp (mem 39) (mem 35 11) rr.2.1 + 1))) (fun a' c' => okP a' (rr.2.2 ++ c'))) (k - 1) ?_ ?_ ?_ ?_
          · exact hR_m_19
          · exact hC.weak (Int.le_refl _) (by omega)
          · exact hj2
          · omega
  refine jsub [0] rfl ?_
  refine L_4 _ m_1 (ecR (clP (mem 39) (mem 35 11) 0)) 199 ?_ ?_ ?_ (Nat.lt_succ_self _)
  · exact hR_m_1
  · exact h0
  · exact FJ.start hPT.1 (by omega)
set_option maxHeartbeats 4000000 in
set_option maxRecDepth 100000 in
theorem c_X12_plan {l : Launch} {g : GP} (hG : GH g) {kd : Int → Nat} {ln : Int → Int} {mem : Int → Int → Int} {sz : Nat} (hS : SK kd ln) (hR : SR mem) (hPT : PTX mem) (hpl : 0 ≤ mem 35 16 ∧ mem 35 16 ≤ 12) : MT l g yX12_plan cX12_plan 2 (some .int) (29) 0 0 [(2, 35)] kd ln mem sz (pMR 0 (fun v mem' => SR mem' ∧ ((plnC mem → v = mem 35 16 ∧ PLM mem mem' (mem 35 16) (fauP (mem 39) (mem 35 11)).2.2) ∧ (¬ plnC mem → v = -1 ∧ FPF mem mem'))) kd ln sz) := by
  refine MT_of hG (by decide +kernel) (Nat.le_of_ble_eq_true rfl) (fun z hF hr hn => ?_)
  refine jblk hF [(.aload_n 0, 1)] (by decide +kernel) (pc' := 1) (lo' := [(0, (2, 35))]) (st' := [(2, 35)]) rfl ?_
  refine jget hF 13 16 0 16 rfl (by decide) (by decide) rfl wd_1479 (by decide +kernel) (by exact hS.k35) ?_
  refine jblk hF [(.bipush 12, 2)] (by decide +kernel) (pc' := 6) (lo' := [(0, (2, 35))]) (st' := [(0, 12), (0, mem 35 16)]) rfl ?_
  refine jicmp_eq hF (off := 11) 17 (by decide +kernel) (by decide) (by omega) (by decide) (fun h_1 => ?_) (fun h_1 => ?_)
  · refine jblk hF [(.iconst (-1), 1)] (by decide +kernel) (pc' := 18) (lo' := [(0, (2, 35))]) (st' := [(0, (-1))]) rfl ?_
    refine jiret hF hr (by decide +kernel) ?_
    exact lMR ⟨hR, by first | (refine ⟨fun h => absurd h (by omega), fun _ => ⟨rfl, fun _ _ _ _ => rfl⟩⟩; done) | exact ⟨fun h => absurd h.2 (by omega), fun _ => ⟨rfl, hff.1⟩⟩⟩
  · refine jblk hF [(.aload_n 0, 1)] (by decide +kernel) (pc' := 10) (lo' := [(0, (2, 35))]) (st' := [(2, 35)]) rfl ?_
    refine jcallV hF (c_X12_fault hG hS hR (by assumption)) MW_X12_fault 13 (by decide) (by exact hS.k35) wd_1894 wd_1822 wd_1823 (by decide +kernel) [] rfl rfl (rmI (by omega) (by decide)) (Nat.le_of_ble_eq_true rfl) ⟨Nat.le_of_ble_eq_true rfl, Nat.le_of_ble_eq_true rfl⟩ (kMR (fun v_4 m_2 h_3 => ?_))
    obtain ⟨hR_m_2, h_3⟩ := h_3
    obtain ⟨hfv, hff⟩ := h_3
    have hfc : v_4 = -1 ↔ (fauP (mem 39) (mem 35 11)).1 = -1 := by rw [hfv]
    have hvb : InI v_4 := by rw [hfv]; exact fauP_in _ _ hPT.1 hPT.2.1
    refine jblk hF [(.iconst (-1), 1)] (by decide +kernel) (pc' := 14) (lo' := [(0, (2, 35))]) (st' := [(0, (-1)), (0, v_4)]) rfl ?_
    refine jicmp_eq hF (off := 5) 19 (by decide +kernel) (by decide) (by omega) (by decide) (fun h_5 => ?_) (fun h_5 => ?_)
    · have hf1 : (fauP (mem 39) (mem 35 11)).1 = -1 := by omega
      obtain ⟨hl15, hlb, hsg⟩ := hff.2 hf1
      have g16 : m_2 35 16 = mem 35 16 := hff.1 35 16 (by decide) (by decide)
      refine jblk hF [(.iconst 0, 1), (.istore_n 1, 1)] (by decide +kernel) (pc' := 21) (lo' := [(1, (0, 0)), (0, (2, 35))]) (st' := []) rfl ?_
      have L_7 : ∀ (fu_8 : Nat) (kk : Int) (m3 : Int → Int → Int) (mb : Int → Int → Int), (SR m3) → (FPS mem mb) → (0 ≤ kk ∧ kk ≤ mb 35 15) → (∀ a j : Int, ¬ (a = 41 ∧ 620 * mem 35 16 ≤ j ∧ j < 620 * mem 35 16 + 620) → m3 a j = mb a j) → (∀ j : Int, 0 ≤ j → j < kk → m3 41 (620 * mem 35 16 + j) = mb 40 j) →  (mb 35 15 - kk).toNat < fu_8 → J z g 2 0 0 (QM z g 0 0 (pMR 0 (fun v mem' => SR mem' ∧ ((plnC mem → v = mem 35 16 ∧ PLM mem mem' (mem 35 16) (fauP (mem 39) (mem 35 11)).2.2) ∧ (¬ plnC mem → v = -1 ∧ FPF mem mem'))) kd ln sz)) 21 [(0, (2, 35)), (1, (0, kk))] [] kd ln m3 sz := by
        intro fu_8
        induction fu_8 with
        | zero => intro kk m3 mb _ _ _ _ _ hm; omega
        | succ fu_8 ih_6 =>
          intro kk m3 mb hR_m3 hfb hkk hfr hcp hm
          have e16 : m3 35 16 = mem 35 16 := (hfr 35 16 (by omega)).trans (hfb.1 35 16 (by decide) (by decide))
          have e15 : m3 35 15 = mb 35 15 := hfr 35 15 (by omega)
          obtain ⟨hl15b, hlbb, hsgb⟩ := hfb.2 (by omega)
          refine jblk hF [(.iload_n 1, 1), (.aload_n 0, 1)] (by decide +kernel) (pc' := 23) (lo' := [(0, (2, 35)), (1, (0, kk))]) (st' := [(2, 35), (0, kk)]) rfl ?_
          refine jget hF 13 15 0 15 rfl (by decide) (by decide) rfl wd_1478 (by decide +kernel) (by exact hS.k35) ?_
          refine jicmp_ge hF (off := 30) 56 (by decide +kernel) (by decide) (by omega) (by omega) (fun h_9 => ?_) (fun h_9 => ?_)
          · refine jblk hF [(.aload_n 0, 1)] (by decide +kernel) (pc' := 57) (lo' := [(0, (2, 35)), (1, (0, kk))]) (st' := [(2, 35)]) rfl ?_
            refine jget hF 13 10 2 10 rfl (by decide) (by decide) rfl wd_1473 (by decide +kernel) (by exact hS.k35) ?_
            rw [SR.r10 hR_m3]
            refine jblk hF [(.aload_n 0, 1)] (by decide +kernel) (pc' := 61) (lo' := [(0, (2, 35)), (1, (0, kk))]) (st' := [(2, 35), (2, 42)]) rfl ?_
            refine jget hF 13 16 0 16 rfl (by decide) (by decide) rfl wd_1479 (by decide +kernel) (by exact hS.k35) ?_
            refine jblk hF [(.aload_n 0, 1)] (by decide +kernel) (pc' := 65) (lo' := [(0, (2, 35)), (1, (0, kk))]) (st' := [(2, 35), (0, m3 35 16), (2, 42)]) rfl ?_
            refine jget hF 13 15 0 15 rfl (by decide) (by decide) rfl wd_1478 (by decide +kernel) (by exact hS.k35) ?_
            refine jiast hF (by decide +kernel) (by decide) (by exact hS.k42) (by omega) (by have := hS.l42; omega) ?_
            refine jblk hF [(.aload_n 0, 1), (.iconst 0, 1)] (by decide +kernel) (pc' := 71) (lo' := [(0, (2, 35)), (1, (0, kk))]) (st' := [(0, 0), (2, 35)]) rfl ?_
            refine jput hF 13 11 0 11 rfl (by decide) (by decide) rfl wd_1474 (by decide +kernel) rfl (Or.inl rfl) (by exact hS.k35) (fun h => by cases h) ?_
            refine jblk hF [(.aload_n 0, 1), (.dup, 1)] (by decide +kernel) (pc' := 76) (lo' := [(0, (2, 35)), (1, (0, kk))]) (st' := [(2, 35), (2, 35)]) rfl ?_
            refine jget hF 13 16 0 16 rfl (by decide) (by decide) rfl wd_1479 (by decide +kernel) (by exact hS.k35) ?_
            rw [show (set2 (set2 m3 42 (m3 35 16) (m3 35 15)) 35 11 0) 35 16 = m3 35 16 from ((s2_k (by decide)).trans (s2_a (by decide)))]
            refine jblk hF [(.iconst 1, 1), (.iadd, 1)] (by decide +kernel) (pc' := 81) (lo' := [(0, (2, 35)), (1, (0, kk))]) (st' := [(0, (m3 35 16) + 1), (2, 35)]) rfl ?_
            refine jput hF 13 16 0 16 rfl (by decide) (by decide) rfl wd_1479 (by decide +kernel) rfl (Or.inl rfl) (by exact hS.k35) (fun h => by cases h) ?_
            refine jblk hF [(.aload_n 0, 1)] (by decide +kernel) (pc' := 85) (lo' := [(0, (2, 35)), (1, (0, kk))]) (st' := [(2, 35)]) rfl ?_
            refine jget hF 13 16 0 16 rfl (by decide) (by decide) rfl wd_1479 (by decide +kernel) (by exact hS.k35) ?_
            rw [show (set2 (set2 (set2 m3 42 (m3 35 16) (m3 35 15)) 35 11 0) 35 16 ((m3 35 16) + 1)) 35 16 = (m3 35 16) + 1 from s2_s]
            refine jblk hF [(.iconst 1, 1), (.isub, 1)] (by decide +kernel) (pc' := 90) (lo' := [(0, (2, 35)), (1, (0, kk))]) (st' := [(0, ((m3 35 16) + 1) - 1)]) rfl ?_
            refine jiret hF hr (by decide +kernel) ?_
            exact lMR ⟨(SR.s (SR.s (SR.s hR_m3 (Or.inl (by decide))) (Or.inr (by decide))) (Or.inr (by decide))), by exact ⟨fun _ => ⟨by omega, PLM.of hfb (by omega) e16 e15 hfr (fun j q1 q2 => hcp j q1 (by omega))⟩, fun h => absurd ⟨by omega, by omega⟩ h⟩⟩
          · refine jblk hF [(.aload_n 0, 1)] (by decide +kernel) (pc' := 30) (lo' := [(0, (2, 35)), (1, (0, kk))]) (st' := [(2, 35)]) rfl ?_
            refine jget hF 13 9 2 9 rfl (by decide) (by decide) rfl wd_1472 (by decide +kernel) (by exact hS.k35) ?_
            rw [SR.r9 hR_m3]
            refine jblk hF [(.sipush 620, 3), (.aload_n 0, 1)] (by decide +kernel) (pc' := 37) (lo' := [(0, (2, 35)), (1, (0, kk))]) (st' := [(2, 35), (0, 620), (2, 41)]) rfl ?_
            refine jget hF 13 16 0 16 rfl (by decide) (by decide) rfl wd_1479 (by decide +kernel) (by exact hS.k35) ?_
            refine jblk hF [(.imul, 1), (.iload_n 1, 1), (.iadd, 1), (.aload_n 0, 1)] (by decide +kernel) (pc' := 44) (lo' := [(0, (2, 35)), (1, (0, kk))]) (st' := [(2, 35), (0, (620 * (m3 35 16)) + kk), (2, 41)]) rfl ?_
            refine jget hF 13 8 2 8 rfl (by decide) (by decide) rfl wd_1471 (by decide +kernel) (by exact hS.k35) ?_
            rw [SR.r8 hR_m3]
            refine jblk hF [(.iload_n 1, 1)] (by decide +kernel) (pc' := 48) (lo' := [(0, (2, 35)), (1, (0, kk))]) (st' := [(0, kk), (2, 40), (0, (620 * (m3 35 16)) + kk), (2, 41)]) rfl ?_
            refine jiald hF (by decide +kernel) (by exact hS.k40) (by omega) (by have := hS.l40; omega) ?_
            refine jiast hF (by decide +kernel) (by decide) (by exact hS.k41) (by omega) (by have := hS.l41; omega) ?_
            refine jblk hF [(.iinc 1 1, 3)] (by decide +kernel) (pc' := 53) (lo' := [(1, (0, kk + 1)), (0, (2, 35))]) (st' := []) rfl ?_
            refine jgoto hF (off := (-32)) 21 (by decide +kernel) (by decide) ?_
            refine jsub [1, 0] rfl ?_
            refine ih_6 (kk + 1) (set2 m3 41 ((620 * (m3 35 16)) + kk) (m3 40 kk)) mb ?_ ?_ ?_ ?_ ?_ ?_
            · exact (SR.s hR_m3 (Or.inl (by decide)))
            · exact hfb
            · omega
            · (intro a j q; unfold set2; rw [if_neg (by rw [e16]; omega)]; exact hfr a j q)
            · (intro j q1 q2; by_cases e : j = kk; (rw [e, ← e16, s2_s]; exact hfr 40 kk (by omega)); (rw [s2_k (by rw [e16]; omega)]; exact hcp j q1 (by omega)))
            · omega
      refine jsub [1, 0] rfl ?_
      refine L_7 _ 0 m_2 m_2 ?_ ?_ ?_ ?_ ?_ (Nat.lt_succ_self _)
      · exact hR_m_2
      · exact hff
      · omega
      · intro a j _; rfl
      · intro j q1 q2; omega
    · refine jblk hF [(.iconst (-1), 1)] (by decide +kernel) (pc' := 18) (lo' := [(0, (2, 35))]) (st' := [(0, (-1))]) rfl ?_
      refine jiret hF hr (by decide +kernel) ?_
      exact lMR ⟨hR_m_2, by first | (refine ⟨fun h => absurd h (by omega), fun _ => ⟨rfl, fun _ _ _ _ => rfl⟩⟩; done) | exact ⟨fun h => absurd h.2 (by omega), fun _ => ⟨rfl, hff.1⟩⟩⟩
end
