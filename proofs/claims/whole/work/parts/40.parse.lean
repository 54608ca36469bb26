section
theorem set2_id (mem : Int → Int → Int) (a k : Int) : set2 mem a k (mem a k) = mem := by
  funext b j
  unfold set2
  split
  · rename_i h; rw [h.1, h.2]
  · rfl
def SG (f : Int → Int) : Int → List Int → Prop
  | _, [] => True
  | b, x :: c => f b = x ∧ SG f (b + 1) c
theorem SG.app {f : Int → Int} : ∀ {c : List Int} {b : Int} {d : List Int}, SG f b c → SG f (b + c.length) d → SG f b (c ++ d) := by
  intro c
  induction c with
  | nil => intro b d h1 h2; simpa using h2
  | cons x c ih =>
    intro b d h1 h2
    refine ⟨h1.1, ih h1.2 ?_⟩
    rw [List.length_cons] at h2
    rw [show b + 1 + (c.length : Int) = b + ((c.length + 1 : Nat) : Int) by omega]
    exact h2
theorem SG.fst {f : Int → Int} : ∀ {c : List Int} {b : Int} {d : List Int}, SG f b (c ++ d) → SG f b c ∧ SG f (b + c.length) d := by
  intro c
  induction c with
  | nil => intro b d h; exact ⟨trivial, by simpa using h⟩
  | cons x c ih =>
    intro b d h
    obtain ⟨h1, h2⟩ := ih h.2
    refine ⟨⟨h.1, h1⟩, ?_⟩
    rw [List.length_cons, show b + ((c.length + 1 : Nat) : Int) = b + 1 + (c.length : Int) by omega]
    exact h2
theorem SG.congr {f f' : Int → Int} : ∀ {c : List Int} {b : Int}, SG f b c → (∀ j : Int, b ≤ j → j < b + c.length → f' j = f j) → SG f' b c := by
  intro c
  induction c with
  | nil => intro b h he; trivial
  | cons x c ih =>
    intro b h he
    rw [List.length_cons] at he
    exact ⟨by rw [he b (by omega) (by omega)]; exact h.1, ih h.2 (fun j h1 h2 => he j (by omega) (by omega))⟩
/-! the reading's state -/
abbrev PTX (mem : Int → Int → Int) : Prop := 0 ≤ mem 35 11 ∧ mem 35 11 ≤ 160 ∧ ∀ i : Int, 0 ≤ i → i < 160 → 0 ≤ mem 39 i ∧ mem 39 i ≤ 255
abbrev PC (mem : Int → Int → Int) (u : Int) : Prop := mem 35 13 = -1 ∧ 0 ≤ mem 35 12 ∧ mem 35 12 ≤ mem 35 11 ∧ mem 35 14 = 6 - u ∧ 0 ≤ mem 35 15 ∧ mem 35 15 ≤ 2 * mem 35 12 + 1 ∧ 0 ≤ u ∧ u ≤ 6
abbrev PFR (mem mm : Int → Int → Int) : Prop := (∀ a j : Int, ¬ (a = 35 ∧ 12 ≤ j ∧ j ≤ 15) → a ≠ 40 → mm a j = mem a j) ∧ (∀ j : Int, j < mem 35 15 → mm 40 j = mem 40 j) ∧ mem 35 12 ≤ mm 35 12 ∧ mem 35 15 ≤ mm 35 15
def PS (mem mm : Int → Int → Int) (u d e : Int) (r : PR) : Prop := PFR mem mm ∧ mm 35 15 + d ≤ mem 35 15 + 2 * (mm 35 12 - mem 35 12) ∧
  (r.1 = -1 → mm 35 13 = -1 ∧ mm 35 12 = r.2.1 ∧ r.2.1 ≤ mem 35 11 ∧ mm 35 14 = mem 35 14 + e ∧ mm 35 15 = mem 35 15 + r.2.2.length ∧ SG (mm 40) (mem 35 15) r.2.2) ∧
  (r.1 ≠ -1 → mm 35 13 = r.1 ∧ mm 35 12 ≤ mem 35 11 + u)
abbrev LKF (mem mm : Int → Int → Int) : Prop := (∀ a j : Int, ¬ (a = 35 ∧ j = 12) → mm a j = mem a j) ∧ mm 35 12 = skp (mem 39) (mem 35 11) (mem 35 12)
theorem PS.txt {mem mm : Int → Int → Int} {u d e : Int} {r : PR} (h : PS mem mm u d e r) : mm 39 = mem 39 ∧ mm 35 11 = mem 35 11 := ⟨funext fun j => h.1.1 39 j (by omega) (by decide), h.1.1 35 11 (by omega) (by decide)⟩
theorem PS.ptx {mem mm : Int → Int → Int} {u d e : Int} {r : PR} (h : PS mem mm u d e r) (hP : PTX mem) : PTX mm := by
  obtain ⟨e1, e2⟩ := h.txt
  unfold PTX
  rw [e1, e2]
  exact hP
theorem PS.rf {mem : Int → Int → Int} {u w : Int} (h : PC mem w) : PS mem mem u 0 0 (okP (mem 35 12) []) :=
  ⟨⟨fun _ _ _ _ => rfl, fun _ _ => rfl, Int.le_refl _, Int.le_refl _⟩, by omega, fun _ => ⟨h.1, rfl, h.2.2.1, by omega, by simp [okP], trivial⟩, fun q => absurd rfl q⟩
theorem PS.pc {mem mm : Int → Int → Int} {u d e w : Int} {r : PR} (h : PS mem mm u d e r) (hr : r.1 = -1) (hw : PC mem w) {u' : Int} (hu : 6 - w + e = 6 - u') (h0 : 0 ≤ u' ∧ u' ≤ 6) (hd : 0 ≤ d) : PC mm u' := by
  obtain ⟨⟨f1, f2, f3, f4⟩, f5, f6, -⟩ := h
  obtain ⟨g1, g2, g3, g4, g5, g6⟩ := f6 hr
  obtain ⟨w1, w2, w3, w4, w5, w6, w7⟩ := hw
  have e2 : mm 35 11 = mem 35 11 := f1 35 11 (by omega) (by decide)
  exact ⟨g1, by omega, by omega, by omega, by omega, by omega, h0.1, h0.2⟩
theorem PS.weak {mem mm : Int → Int → Int} {u d e u' d' : Int} {r : PR} (h : PS mem mm u d e r) (hu : u ≤ u') (hd : d' ≤ d) : PS mem mm u' d' e r :=
  ⟨h.1, by have := h.2.1; omega, h.2.2.1, fun q => ⟨(h.2.2.2 q).1, by have := (h.2.2.2 q).2; omega⟩⟩
theorem PS.er {mem mm : Int → Int → Int} {u d e e' : Int} {r r' : PR} (h : PS mem mm u d e r) (hr : r.1 ≠ -1) (he : r'.1 = r.1) : PS mem mm u d e' r' :=
  ⟨h.1, h.2.1, fun q => absurd (he.symm.trans q) hr, fun _ => by rw [he]; exact h.2.2.2 hr⟩
theorem PS.look {mem mm m' : Int → Int → Int} {u d e : Int} {r : PR} (h : PS mem mm u d e r) (hu : 0 ≤ u) (hl : LKF mm m') : PS mem m' u d e (bnd r (fun a c => okP (skp (mem 39) (mem 35 11) a) c)) := by
  obtain ⟨e1, e2⟩ := h.txt
  obtain ⟨⟨f1, f2, f3, f4⟩, f5, f6, f7⟩ := h
  obtain ⟨l1, l2⟩ := hl
  rw [e1, e2] at l2
  obtain ⟨s1, s2, s3, -⟩ := skp_f (mem 39) (mem 35 11) (mm 35 12)
  have s5 : mem 35 11 < mm 35 12 → skp (mem 39) (mem 35 11) (mm 35 12) = mm 35 12 := fun q => skp_stop (by omega)
  have l15 := l1 35 15 (by omega)
  have l13 := l1 35 13 (by omega)
  have l14 := l1 35 14 (by omega)
  have l40 : m' 40 = mm 40 := funext fun j => l1 40 j (by omega)
  refine ⟨⟨fun a j q1 q2 => by rw [l1 a j (by omega)]; exact f1 a j q1 q2, fun j q => by rw [l40]; exact f2 j q, by omega, by omega⟩, by omega, ?_, ?_⟩
  · intro q
    by_cases er : r.1 = -1
    · rw [bnd_is er]
      obtain ⟨g1, g2, g3, g4, g5, g6⟩ := f6 er
      exact ⟨by omega, by rw [l2, g2]; rfl, by show skp _ _ r.2.1 ≤ _; rw [← g2]; exact s2 (by omega), by omega, by rw [l15]; exact g5, by rw [l40]; exact g6⟩
    · rw [bnd_no er] at q
      exact absurd q er
  · intro q
    by_cases er : r.1 = -1
    · rw [bnd_is er] at q
      exact absurd rfl q
    · rw [bnd_no er]
      obtain ⟨g1, g2⟩ := f7 er
      refine ⟨by rw [l13]; exact g1, ?_⟩
      rcases Int.lt_or_le (mem 35 11) (mm 35 12) with q1 | q1
      · rw [l2, s5 q1]; exact g2
      · have := s2 q1; omega
theorem PS.adv {mem mm : Int → Int → Int} {u d e a : Int} {c : List Int} (h : PS mem mm u d e (okP a c)) (ha : a < mem 35 11) : PS mem (set2 mm 35 12 (mm 35 12 + 1)) u (d + 2) e (okP (a + 1) c) := by
  obtain ⟨⟨f1, f2, f3, f4⟩, f5, f6, f7⟩ := h
  obtain ⟨g1, g2, g3, g4, g5, g6⟩ := f6 rfl
  have e15 : set2 mm 35 12 (mm 35 12 + 1) 35 15 = mm 35 15 := s2_k (by decide)
  have e12 : set2 mm 35 12 (mm 35 12 + 1) 35 12 = mm 35 12 + 1 := s2_s
  exact ⟨⟨fun b j q1 q2 => by unfold set2; rw [if_neg (by omega)]; exact f1 b j q1 q2, fun j q => by rw [s2_a (by decide)]; exact f2 j q, by omega, by omega⟩, by omega, fun _ => ⟨by rw [s2_k (by decide)]; exact g1, by rw [e12, g2]; rfl, by show a + 1 ≤ _; omega, by rw [s2_k (by decide)]; exact g4, by rw [e15]; exact g5, g6⟩, fun q => absurd rfl q⟩
theorem PS.deep {mem mm : Int → Int → Int} {u d e : Int} {r : PR} (h : PS mem mm u d e r) (x : Int) : PS mem (set2 mm 35 14 (mm 35 14 + x)) u d (e + x) r := by
  obtain ⟨⟨f1, f2, f3, f4⟩, f5, f6, f7⟩ := h
  have e15 : set2 mm 35 14 (mm 35 14 + x) 35 15 = mm 35 15 := s2_k (by decide)
  have e12 : set2 mm 35 14 (mm 35 14 + x) 35 12 = mm 35 12 := s2_k (by decide)
  have e13 : set2 mm 35 14 (mm 35 14 + x) 35 13 = mm 35 13 := s2_k (by decide)
  have e14 : set2 mm 35 14 (mm 35 14 + x) 35 14 = mm 35 14 + x := s2_s
  refine ⟨⟨fun b j q1 q2 => by unfold set2; rw [if_neg (by omega)]; exact f1 b j q1 q2, fun j q => by rw [s2_a (by decide)]; exact f2 j q, by omega, by omega⟩, by omega, fun q => ?_, fun q => by rw [e13, e12]; exact f7 q⟩
  obtain ⟨g1, g2, g3, g4, g5, g6⟩ := f6 q
  exact ⟨by omega, by omega, g3, by omega, by omega, g6⟩
theorem PS.say {mem mm : Int → Int → Int} {u d e : Int} {r : PR} (h : PS mem mm u (d + 1) e r) (x : Int) : PS mem (set2 (set2 mm 40 (mm 35 15) x) 35 15 (mm 35 15 + 1)) u d e (bnd r (fun a c => okP a (c ++ [x]))) := by
  obtain ⟨⟨f1, f2, f3, f4⟩, f5, f6, f7⟩ := h
  have e15 : set2 (set2 mm 40 (mm 35 15) x) 35 15 (mm 35 15 + 1) 35 15 = mm 35 15 + 1 := s2_s
  have ek : ∀ k : Int, k ≠ 15 → set2 (set2 mm 40 (mm 35 15) x) 35 15 (mm 35 15 + 1) 35 k = mm 35 k := fun k q => by rw [s2_k q, s2_a (by decide)]
  have e12 := ek 12 (by decide)
  have e13 := ek 13 (by decide)
  have e14 := ek 14 (by decide)
  have e40 : ∀ j : Int, j ≠ mm 35 15 → set2 (set2 mm 40 (mm 35 15) x) 35 15 (mm 35 15 + 1) 40 j = mm 40 j := fun j q => by rw [s2_a (by decide), s2_k q]
  refine ⟨⟨fun b j q1 q2 => ?_, fun j q => by rw [e40 j (by omega)]; exact f2 j q, by omega, by omega⟩, by omega, ?_, ?_⟩
  · have : ¬ (b = 35 ∧ j = 15) := by omega
    unfold set2
    rw [if_neg this, if_neg (by omega)]
    exact f1 b j q1 q2
  · intro q
    by_cases er : r.1 = -1
    · rw [bnd_is er]
      obtain ⟨g1, g2, g3, g4, g5, g6⟩ := f6 er
      refine ⟨by omega, by rw [e12]; exact g2, g3, by omega, ?_, ?_⟩
      · rw [e15, g5]
        show _ = _ + (((r.2.2 ++ [x]).length : Nat) : Int)
        rw [List.length_append, List.length_singleton]
        omega
      · refine SG.app (g6.congr (fun j h1 h2 => e40 j (by omega))) ⟨?_, trivial⟩
        rw [← g5, s2_a (by decide), s2_s]
    · rw [bnd_no er] at q
      exact absurd q er
  · intro q
    by_cases er : r.1 = -1
    · rw [bnd_is er] at q
      exact absurd rfl q
    · rw [bnd_no er]
      obtain ⟨g1, g2⟩ := f7 er
      exact ⟨by rw [e13]; exact g1, by omega⟩
theorem PS.call {mem m1 m2 : Int → Int → Int} {u d e u' d' e' : Int} {r1 r : PR} (h : PS mem m1 u d e r1) (hr : r1.1 = -1) (h' : PS m1 m2 u' d' e' r) : PS mem m2 u' (d + d') (e + e') (bnd r (fun a' c' => okP a' (r1.2.2 ++ c'))) := by
  obtain ⟨e1, e2⟩ := h.txt
  obtain ⟨⟨f1, f2, f3, f4⟩, f5, f6, -⟩ := h
  obtain ⟨g1, g2, g3, g4, g5, g6⟩ := f6 hr
  obtain ⟨⟨k1, k2, k3, k4⟩, k5, k6, k7⟩ := h'
  refine ⟨⟨fun b j q1 q2 => (k1 b j q1 q2).trans (f1 b j q1 q2), fun j q => by rw [k2 j (by omega)]; exact f2 j q, by omega, by omega⟩, by omega, ?_, ?_⟩
  · intro q
    by_cases er : r.1 = -1
    · rw [bnd_is er]
      obtain ⟨n1, n2, n3, n4, n5, n6⟩ := k6 er
      refine ⟨n1, n2, by rw [← e2]; exact n3, by omega, ?_, ?_⟩
      · show _ = _ + (((r1.2.2 ++ r.2.2).length : Nat) : Int)
        rw [List.length_append]
        omega
      · refine SG.app (g6.congr (fun j h1 h2 => k2 j (by omega))) ?_
        rw [← g5]
        exact n6
    · rw [bnd_no er] at q
      exact absurd q er
  · intro q
    by_cases er : r.1 = -1
    · rw [bnd_is er] at q
      exact absurd rfl q
    · rw [bnd_no er]
      obtain ⟨n1, n2⟩ := k7 er
      exact ⟨n1, by omega⟩
theorem PS.bad {mem mm : Int → Int → Int} {u d e a : Int} {c : List Int} (h : PS mem mm u d e (okP a c)) (ha : a ≠ -1) (hu : 0 ≤ u) : PS mem (set2 mm 35 13 (mm 35 12)) u d e (erP a) := by
  obtain ⟨⟨f1, f2, f3, f4⟩, f5, f6, f7⟩ := h
  obtain ⟨g1, g2, g3, g4, g5, g6⟩ := f6 rfl
  have e15 : set2 mm 35 13 (mm 35 12) 35 15 = mm 35 15 := s2_k (by decide)
  have e12 : set2 mm 35 13 (mm 35 12) 35 12 = mm 35 12 := s2_k (by decide)
  have g2' : mm 35 12 = a := g2
  have g3' : a ≤ mem 35 11 := g3
  exact ⟨⟨fun b j q1 q2 => by unfold set2; rw [if_neg (by omega)]; exact f1 b j q1 q2, fun j q => by rw [s2_a (by decide)]; exact f2 j q, by omega, by omega⟩, by omega, fun q => absurd q ha, fun _ => ⟨by rw [s2_s]; exact g2, by omega⟩⟩
theorem clsP_app (T : Int → Int) (L ch a : Int) (c : List Int) : clsP T L ch a c = bnd (clsP T L ch a []) (fun a' c' => okP a' (c ++ c')) ∨ skp T L a = -1 := by
  unfold clsP
  split
  · left; rw [bnd_ok, List.append_nil]
  · by_cases e : skp T L a = -1
    · right; exact e
    · left; rw [bnd_er e]
theorem PS.cls {mem m3 m4 : Int → Int → Int} {u d e ch : Int} {r : PR} (h : PS mem m3 u d e r) (h0 : 0 ≤ mem 35 12) (hd : 0 ≤ d) (hu : 0 ≤ u) (h1 : m3 35 13 = -1 → PS m3 m4 1 0 (-1) (clsP (m3 39) (m3 35 11) ch (m3 35 12) [])) (h2 : m3 35 13 ≠ -1 → m4 = set2 (set2 m3 35 12 (m3 35 12 + 1)) 35 14 (m3 35 14 - 1)) : PS mem m4 (u + 1) d (e - 1) (bnd r (clsP (mem 39) (mem 35 11) ch)) := by
  obtain ⟨e1, e2⟩ := h.txt
  by_cases er : r.1 = -1
  · obtain ⟨g1, g2, g3, g4, g5, g6⟩ := h.2.2.1 er
    have hc := h.call er (h1 g1)
    rw [e1, e2, g2] at hc
    have hs := (skp_f (mem 39) (mem 35 11) r.2.1).1
    have hl := h.1.2.2.1
    rw [bnd_is er]
    rcases clsP_app (mem 39) (mem 35 11) ch r.2.1 r.2.2 with q | q
    · rw [q]
      exact (hc.weak (by omega) (by omega))
    · omega
  · obtain ⟨g1, g2⟩ := h.2.2.2 er
    have hm := h2 (by rw [g1]; exact er)
    rw [bnd_no er]
    obtain ⟨⟨f1, f2, f3, f4⟩, f5, f6, f7⟩ := h
    subst hm
    have e12 : set2 (set2 m3 35 12 (m3 35 12 + 1)) 35 14 (m3 35 14 - 1) 35 12 = m3 35 12 + 1 := by rw [s2_k (by decide), s2_s]
    have e13 : set2 (set2 m3 35 12 (m3 35 12 + 1)) 35 14 (m3 35 14 - 1) 35 13 = m3 35 13 := by rw [s2_k (by decide), s2_k (by decide)]
    have e15 : set2 (set2 m3 35 12 (m3 35 12 + 1)) 35 14 (m3 35 14 - 1) 35 15 = m3 35 15 := by rw [s2_k (by decide), s2_k (by decide)]
    exact ⟨⟨fun b j q1 q2 => by unfold set2; rw [if_neg (by omega), if_neg (by omega)]; exact f1 b j q1 q2, fun j q => by rw [s2_a (by decide), s2_a (by decide)]; exact f2 j q, by omega, by omega⟩, by omega, fun q => absurd q er, fun _ => ⟨by rw [e13]; exact g1, by omega⟩⟩
theorem app_er {c : List Int} {r : PR} : (bnd r (fun a' c' => okP a' (c ++ c'))).1 = r.1 := by
  by_cases er : r.1 = -1
  · rw [bnd_is er]; exact er.symm
  · rw [bnd_no er]; rfl
theorem nil_app (r : PR) : bnd r (fun a' c' => okP a' ([] ++ c')) = bnd r okP := rfl
theorem bnd_okP (r : PR) (f : Int → List Int → PR) : bnd (bnd r okP) f = bnd r f := by rw [bnd_bnd]; rfl
/-- a result of an error needs no more than its place -/
theorem PS.to {mem mm : Int → Int → Int} {u d e : Int} {r r' : PR} (h : PS mem mm u d e r) (h1 : r.1 = -1 → r' = r) (h2 : r.1 ≠ -1 → r'.1 = r.1) : PS mem mm u d e r' := by
  by_cases er : r.1 = -1
  · rw [h1 er]; exact h
  · exact h.er er (h2 er)
theorem PS.okp {mem mm : Int → Int → Int} {u d e : Int} {r : PR} (h : PS mem mm u d e (bnd r okP)) : PS mem mm u d e r := h.to
  (fun q => by
    by_cases er : r.1 = -1
    · rw [bnd_is er]
      obtain ⟨a, b, c⟩ := r
      cases er
      rfl
    · rw [bnd_no er] at q; exact absurd q er)
  (fun q => by
    by_cases er : r.1 = -1
    · rw [bnd_is er] at q; exact absurd rfl q
    · rw [bnd_no er]; rfl)
theorem PS.w13 {mem mm : Int → Int → Int} {u d e : Int} {r : PR} (h : PS mem mm u d e r) : mm 35 13 = r.1 := by
  by_cases er : r.1 = -1
  · rw [(h.2.2.1 er).1, er]
  · exact (h.2.2.2 er).1
theorem PS.bds {mem mm : Int → Int → Int} {u d e w : Int} {r : PR} (h : PS mem mm u d e r) (hP : PTX mem) (hC : PC mem w) (hu : 0 ≤ u ∧ u ≤ 7) (hd : 0 ≤ d) (hr : r.1 ≠ -1 → 0 ≤ r.1 ∧ r.1 ≤ 200) : -1 ≤ mm 35 13 ∧ mm 35 13 ≤ 200 ∧ 0 ≤ mm 35 12 ∧ mm 35 12 ≤ 167 ∧ 0 ≤ mm 35 15 ∧ mm 35 15 + d ≤ 340 := by
  have h13 := h.w13
  obtain ⟨⟨f1, f2, f3, f4⟩, f5, f6, f7⟩ := h
  by_cases er : r.1 = -1
  · obtain ⟨g1, g2, g3, -⟩ := f6 er
    omega
  · obtain ⟨g1, g2⟩ := f7 er
    have := hr er
    omega
theorem rmI {d D mc ms nLy : Nat} (h : d + 1 ≤ D) (h2 : nLy ≤ 21) : d + 1 ≤ (mkR D mc ms).frames ∧ 8 + (nLy + 11) + 40 * d ≤ (mkR D mc ms).locals := ⟨h, by show _ ≤ 40 * D; omega⟩
theorem PS.opn {mem mm : Int → Int → Int} {u d e a : Int} {c : List Int} (h : PS mem mm u d e (okP a c)) (ha : a < mem 35 11) : PS mem (set2 (set2 mm 35 14 (mm 35 14 + 1)) 35 12 (mm 35 12 + 1)) u (d + 2) (e + 1) (okP (a + 1) c) := by
  have h1 := (h.deep 1).adv ha
  rw [show set2 mm 35 14 (mm 35 14 + 1) 35 12 = mm 35 12 from s2_k (by decide)] at h1
  exact h1
theorem PS.adve {mem mm : Int → Int → Int} {u d e a : Int} (h : PS mem mm u d e (erP a)) (ha : a ≠ -1) : PS mem (set2 mm 35 12 (mm 35 12 + 1)) (u + 1) (d + 2) e (erP a) := by
  obtain ⟨⟨f1, f2, f3, f4⟩, f5, f6, f7⟩ := h
  obtain ⟨g1, g2⟩ := f7 ha
  have e15 : set2 mm 35 12 (mm 35 12 + 1) 35 15 = mm 35 15 := s2_k (by decide)
  have e12 : set2 mm 35 12 (mm 35 12 + 1) 35 12 = mm 35 12 + 1 := s2_s
  exact ⟨⟨fun b j q1 q2 => by unfold set2; rw [if_neg (by omega)]; exact f1 b j q1 q2, fun j q => by rw [s2_a (by decide)]; exact f2 j q, by omega, by omega⟩, by omega, fun q => absurd q ha, fun _ => ⟨by rw [s2_k (by decide)]; exact g1, by omega⟩⟩
theorem PS.deepS {mem mm : Int → Int → Int} {u d e : Int} {r : PR} (h : PS mem mm u d e r) : PS mem (set2 mm 35 14 (mm 35 14 - 1)) u d (e - 1) r := h.deep (-1)
/-- the loops' state -/
def OPJ (T : Int → Int) (L : Int) (op : Int → Bool) (sub : Int → PR) (a0 : Int) (tg : PR) (k : Nat) (rr : PR) : Prop :=
  GD T L a0 rr ∧ (rr.1 = -1 → L - rr.2.1 < k) ∧ bnd rr (opL T L op sub k) = tg
theorem OPJ.start {T : Int → Int} {L : Int} {op : Int → Bool} {sub : Int → PR} {a0 : Int} {r0 : PR} (h : GD T L a0 r0) (hL : L < 200) (h0 : 0 ≤ a0) : OPJ T L op sub a0 (bnd r0 (opL T L op sub 200)) 200 r0 :=
  ⟨h, fun e => by have := (h.1 e).1; omega, rfl⟩
theorem OPJ.next {T : Int → Int} {L : Int} {op : Int → Bool} {sub : Int → PR} {a0 : Int} {tg rr : PR} {k : Nat} (h : OPJ T L op sub a0 tg k rr) (hop : ∀ c, op c = true → isOp c) (hs : ∀ a, 0 ≤ a → a ≤ L → GD T L a (sub a)) (h0 : 0 ≤ a0) (e : rr.1 = -1) (ho : op (chr T L (skp T L rr.2.1)) = true) :
    1 ≤ k ∧ skp T L rr.2.1 < L ∧ OPJ T L op sub a0 tg (k - 1) (bnd (sub (skp T L rr.2.1 + 1)) (fun a' c' => okP a' (rr.2.2 ++ c' ++ [chr T L (skp T L rr.2.1)]))) := by
  obtain ⟨g1, g2, g3⟩ := h
  have hg := g1.1 e
  have hk := g2 e
  have hgl := hg.2.1
  have hg0 := hg.1
  obtain ⟨s1, s2, -, s4⟩ := skp_f T L rr.2.1
  have hx := hop _ ho
  have hlt : skp T L rr.2.1 < L := chr_lt T (by omega)
  have hss := hs (skp T L rr.2.1 + 1) (by omega) (by omega)
  refine ⟨by omega, hlt, GD.bnd h0 (by omega) hss (fun a' c' h' => GD.ok (hg.join (by omega) h' (sk_no (by omega) hlt) hx)), fun q => ?_, ?_⟩
  · by_cases e2 : (sub (skp T L rr.2.1 + 1)).1 = -1
    · rw [bnd_is e2]
      have := (hss.1 e2).1
      show L - (sub (skp T L rr.2.1 + 1)).2.1 < _
      omega
    · rw [bnd_no e2] at q
      exact absurd q e2
  · obtain ⟨k, rfl⟩ : ∃ j, k = j + 1 := ⟨k - 1, by omega⟩
    rw [← g3, bnd_is e, opL, if_pos ho, bnd_bnd]
    rfl
theorem OPJ.stop {T : Int → Int} {L : Int} {op : Int → Bool} {sub : Int → PR} {a0 : Int} {tg rr : PR} {k : Nat} (h : OPJ T L op sub a0 tg k rr) (e : rr.1 = -1) (ho : ¬ op (chr T L (skp T L rr.2.1)) = true) : bnd rr (fun a c => okP (skp T L a) c) = tg := by
  obtain ⟨g1, g2, g3⟩ := h
  have hk := g2 e
  have := (g1.1 e).2.1
  obtain ⟨k, rfl⟩ : ∃ j, k = j + 1 := ⟨k - 1, by omega⟩
  rw [← g3, bnd_is e, bnd_is e, opL, if_neg ho]
theorem OPJ.fail {T : Int → Int} {L : Int} {op : Int → Bool} {sub : Int → PR} {a0 : Int} {tg rr : PR} {k : Nat} (h : OPJ T L op sub a0 tg k rr) (e : rr.1 ≠ -1) : tg.1 = rr.1 := by
  rw [← h.2.2, bnd_no e]
  rfl
theorem app_say {r : PR} {x : List Int} {y : Int} : bnd (bnd r (fun a' c' => okP a' (x ++ c'))) (fun a c' => okP a (c' ++ [y])) = bnd r (fun a' c' => okP a' (x ++ c' ++ [y])) := by
  rw [bnd_bnd]
  rfl
theorem PS.sk1 {mem mm : Int → Int → Int} {u d e : Int} {r : PR} {f : Int → Int} (h : PS mem mm u d e (bnd r (fun a c => okP (f a) c))) : mm 35 13 = r.1 := by
  rw [h.w13]
  by_cases er : r.1 = -1
  · rw [bnd_is er]; exact er.symm
  · rw [bnd_no er]; rfl
theorem PS.okI {mem mm : Int → Int → Int} {u d e : Int} {r : PR} {f : Int → Int} (h : PS mem mm u d e (bnd r (fun a c => okP (f a) c))) (er : r.1 = -1) : PS mem mm u d e (okP (f r.2.1) r.2.2) := by
  rw [bnd_is er] at h
  exact h
theorem PS.erI {mem mm : Int → Int → Int} {u d e : Int} {r r' : PR} {f : Int → Int} (h : PS mem mm u d e (bnd r (fun a c => okP (f a) c))) (er : r.1 ≠ -1) (he : r'.1 = r.1) : PS mem mm u d e r' := by
  rw [bnd_no er] at h
  exact h.er er he
theorem PS.gdb {T : Int → Int} {L a0 : Int} {r : PR} (h : GD T L a0 r) (h0 : 0 ≤ a0) (hL : L ≤ 160) {f : Int → Int} : (bnd r (fun a c => okP (f a) c)).1 ≠ -1 → 0 ≤ (bnd r (fun a c => okP (f a) c)).1 ∧ (bnd r (fun a c => okP (f a) c)).1 ≤ 200 := by
  intro q
  by_cases er : r.1 = -1
  · rw [bnd_is er] at q; exact absurd rfl q
  · rw [bnd_no er]
    have := h.2 er
    show 0 ≤ r.1 ∧ r.1 ≤ 200
    omega
theorem GD.b200 {T : Int → Int} {L a0 : Int} {r : PR} (h : GD T L a0 r) (h0 : 0 ≤ a0) (hL : L ≤ 160) : r.1 ≠ -1 → 0 ≤ r.1 ∧ r.1 ≤ 200 := fun q => by have := h.2 q; omega
theorem opL_app {T : Int → Int} {L : Int} {op : Int → Bool} {sub : Int → PR} (c0 : List Int) : ∀ (k : Nat) (a : Int) (c : List Int), opL T L op sub k a (c0 ++ c) = bnd (opL T L op sub k a c) (fun a' c' => okP a' (c0 ++ c')) := by
  intro k
  induction k with
  | zero => intro a c; rfl
  | succ k ih =>
    intro a c
    unfold opL
    split
    · rw [bnd_bnd]
      refine bnd_congr fun e => ?_
      show opL T L op sub k _ (c0 ++ c ++ _ ++ [_]) = _
      rw [List.append_assoc, List.append_assoc, ih, List.append_assoc]
    · rfl
theorem cmpP_app {T : Int → Int} {L : Int} {u : Nat} {a : Int} (c : List Int) (h : 0 ≤ a) : cmpP T L u a c = bnd (cmpP T L u a []) (fun a' c' => okP a' (c ++ c')) := by
  unfold cmpP
  split
  · rw [bnd_bnd]
    refine bnd_congr fun e => ?_
    show okP _ (c ++ _ ++ [_]) = okP _ (c ++ ([] ++ _ ++ [_]))
    rw [List.nil_append, List.append_assoc]
    rfl
  · rw [bnd_er (by have := (skp_f T L a).1; omega)]
set_option maxHeartbeats 4000000 in
set_option maxRecDepth 100000 in
theorem c_X12_look {l : Launch} {g : GP} (hG : GH g) {kd : Int → Nat} {ln : Int → Int} {mem : Int → Int → Int} {sz : Nat} (hS : SK kd ln) (hR : SR mem) (hPT : PTX mem) (hb0 : 0 ≤ mem 35 12 ∧ mem 35 12 ≤ 200) : MT l g yX12_look cX12_look 1 (some .int) 0 0 0 [(2, 35)] kd ln mem sz (pMR 0 (fun v mem' => SR mem' ∧ (v = chr (mem 39) (mem 35 11) (skp (mem 39) (mem 35 11) (mem 35 12)) ∧ LKF mem mem')) kd ln sz) := by
  refine MT_of hG (by decide +kernel) (Nat.le_of_ble_eq_true rfl) (fun z hF hr hn => ?_)
  have L_2 : ∀ (fu_3 : Nat)  (m1 : Int → Int → Int), (SR m1) → (∀ a j : Int, ¬ (a = 35 ∧ j = 12) → m1 a j = mem a j) → (0 ≤ m1 35 12 ∧ m1 35 12 ≤ 200) → (skp (mem 39) (mem 35 11) (m1 35 12) = skp (mem 39) (mem 35 11) (mem 35 12)) →  (mem 35 11 - m1 35 12).toNat < fu_3 → J z g 1 0 0 (QM z g 0 0 (pMR 0 (fun v mem' => SR mem' ∧ (v = chr (mem 39) (mem 35 11) (skp (mem 39) (mem 35 11) (mem 35 12)) ∧ LKF mem mem')) kd ln sz)) 0 [(0, (2, 35))] [] kd ln m1 sz := by
    intro fu_3
    induction fu_3 with
    | zero => intro m1 _ _ _ _ hm; omega
    | succ fu_3 ih_1 =>
      intro m1 hR_m1 hf ha hsk hm
      have e11 : m1 35 11 = mem 35 11 := hf 35 11 (by decide)
      have e39 : ∀ j : Int, m1 39 j = mem 39 j := fun j => hf 39 j (by omega)
      have hb : 0 ≤ m1 35 12 → m1 35 12 < 160 → 0 ≤ m1 39 (m1 35 12) ∧ m1 39 (m1 35 12) ≤ 255 := fun h1 h2 => by rw [e39]; exact hPT.2.2 _ h1 h2
      have hPT1 := hPT.2.1
      refine jblk hF [(.aload_n 0, 1)] (by decide +kernel) (pc' := 1) (lo' := [(0, (2, 35))]) (st' := [(2, 35)]) rfl ?_
      refine jget hF 13 12 0 12 rfl (by decide) (by decide) rfl wd_1475 (by decide +kernel) (by exact hS.k35) ?_
      refine jblk hF [(.aload_n 0, 1)] (by decide +kernel) (pc' := 5) (lo' := [(0, (2, 35))]) (st' := [(2, 35), (0, m1 35 12)]) rfl ?_
      refine jget hF 13 11 0 11 rfl (by decide) (by decide) rfl wd_1474 (by decide +kernel) (by exact hS.k35) ?_
      refine jicmp_ge hF (off := 30) 38 (by decide +kernel) (by decide) (by omega) (by omega) (fun h_4 => ?_) (fun h_4 => ?_)
      · refine jblk hF [(.aload_n 0, 1)] (by decide +kernel) (pc' := 39) (lo' := [(0, (2, 35))]) (st' := [(2, 35)]) rfl ?_
        refine jget hF 13 12 0 12 rfl (by decide) (by decide) rfl wd_1475 (by decide +kernel) (by exact hS.k35) ?_
        refine jblk hF [(.aload_n 0, 1)] (by decide +kernel) (pc' := 43) (lo' := [(0, (2, 35))]) (st' := [(2, 35), (0, m1 35 12)]) rfl ?_
        refine jget hF 13 11 0 11 rfl (by decide) (by decide) rfl wd_1474 (by decide +kernel) (by exact hS.k35) ?_
        refine jicmp_ge hF (off := 15) 61 (by decide +kernel) (by decide) (by omega) (by omega) (fun h_5 => ?_) (fun h_5 => ?_)
        · refine jblk hF [(.iconst (-1), 1)] (by decide +kernel) (pc' := 62) (lo' := [(0, (2, 35))]) (st' := [(0, (-1))]) rfl ?_
          refine jiret hF hr (by decide +kernel) ?_
          exact lMR ⟨hR_m1, by (have hst : skp (mem 39) (mem 35 11) (mem 35 12) = m1 35 12 := hsk.symm.trans (skp_stop (by rw [← e39]; omega)); rw [hst]; refine ⟨?_, hf, hst.symm⟩; first | (rw [e39]; exact (chr_in (by omega)).symm) | exact (chr_out (by omega)).symm)⟩
        · refine jblk hF [(.aload_n 0, 1)] (by decide +kernel) (pc' := 50) (lo' := [(0, (2, 35))]) (st' := [(2, 35)]) rfl ?_
          refine jget hF 13 7 2 7 rfl (by decide) (by decide) rfl wd_1470 (by decide +kernel) (by exact hS.k35) ?_
          rw [SR.r7 hR_m1]
          refine jblk hF [(.aload_n 0, 1)] (by decide +kernel) (pc' := 54) (lo' := [(0, (2, 35))]) (st' := [(2, 35), (2, 39)]) rfl ?_
          refine jget hF 13 12 0 12 rfl (by decide) (by decide) rfl wd_1475 (by decide +kernel) (by exact hS.k35) ?_
          refine jiald hF (by decide +kernel) (by exact hS.k39) (by omega) (by have := hS.l39; omega) ?_
          refine jgoto hF (off := 4) 62 (by decide +kernel) (by decide) ?_
          refine jiret hF hr (by decide +kernel) ?_
          exact lMR ⟨hR_m1, by (have hst : skp (mem 39) (mem 35 11) (mem 35 12) = m1 35 12 := hsk.symm.trans (skp_stop (by rw [← e39]; omega)); rw [hst]; refine ⟨?_, hf, hst.symm⟩; first | (rw [e39]; exact (chr_in (by omega)).symm) | exact (chr_out (by omega)).symm)⟩
      · refine jblk hF [(.aload_n 0, 1)] (by decide +kernel) (pc' := 12) (lo' := [(0, (2, 35))]) (st' := [(2, 35)]) rfl ?_
        refine jget hF 13 7 2 7 rfl (by decide) (by decide) rfl wd_1470 (by decide +kernel) (by exact hS.k35) ?_
        rw [SR.r7 hR_m1]
        refine jblk hF [(.aload_n 0, 1)] (by decide +kernel) (pc' := 16) (lo' := [(0, (2, 35))]) (st' := [(2, 35), (2, 39)]) rfl ?_
        refine jget hF 13 12 0 12 rfl (by decide) (by decide) rfl wd_1475 (by decide +kernel) (by exact hS.k35) ?_
        refine jiald hF (by decide +kernel) (by exact hS.k39) (by omega) (by have := hS.l39; omega) ?_
        refine jblk hF [(.bipush 32, 2)] (by decide +kernel) (pc' := 22) (lo' := [(0, (2, 35))]) (st' := [(0, 32), (0, m1 39 (m1 35 12))]) rfl ?_
        refine jicmp_ne hF (off := 16) 38 (by decide +kernel) (by decide) (by omega) (by decide) (fun h_6 => ?_) (fun h_6 => ?_)
        · refine jblk hF [(.aload_n 0, 1)] (by decide +kernel) (pc' := 39) (lo' := [(0, (2, 35))]) (st' := [(2, 35)]) rfl ?_
          refine jget hF 13 12 0 12 rfl (by decide) (by decide) rfl wd_1475 (by decide +kernel) (by exact hS.k35) ?_
          refine jblk hF [(.aload_n 0, 1)] (by decide +kernel) (pc' := 43) (lo' := [(0, (2, 35))]) (st' := [(2, 35), (0, m1 35 12)]) rfl ?_
          refine jget hF 13 11 0 11 rfl (by decide) (by decide) rfl wd_1474 (by decide +kernel) (by exact hS.k35) ?_
          refine jicmp_ge hF (off := 15) 61 (by decide +kernel) (by decide) (by omega) (by omega) (fun h_7 => ?_) (fun h_7 => ?_)
          · refine jblk hF [(.iconst (-1), 1)] (by decide +kernel) (pc' := 62) (lo' := [(0, (2, 35))]) (st' := [(0, (-1))]) rfl ?_
            refine jiret hF hr (by decide +kernel) ?_
            exact lMR ⟨hR_m1, by (have hst : skp (mem 39) (mem 35 11) (mem 35 12) = m1 35 12 := hsk.symm.trans (skp_stop (by rw [← e39]; omega)); rw [hst]; refine ⟨?_, hf, hst.symm⟩; first | (rw [e39]; exact (chr_in (by omega)).symm) | exact (chr_out (by omega)).symm)⟩
          · refine jblk hF [(.aload_n 0, 1)] (by decide +kernel) (pc' := 50) (lo' := [(0, (2, 35))]) (st' := [(2, 35)]) rfl ?_
            refine jget hF 13 7 2 7 rfl (by decide) (by decide) rfl wd_1470 (by decide +kernel) (by exact hS.k35) ?_
            rw [SR.r7 hR_m1]
            refine jblk hF [(.aload_n 0, 1)] (by decide +kernel) (pc' := 54) (lo' := [(0, (2, 35))]) (st' := [(2, 35), (2, 39)]) rfl ?_
            refine jget hF 13 12 0 12 rfl (by decide) (by decide) rfl wd_1475 (by decide +kernel) (by exact hS.k35) ?_
            refine jiald hF (by decide +kernel) (by exact hS.k39) (by omega) (by have := hS.l39; omega) ?_
            refine jgoto hF (off := 4) 62 (by decide +kernel) (by decide) ?_
            refine jiret hF hr (by decide +kernel) ?_
            exact lMR ⟨hR_m1, by (have hst : skp (mem 39) (mem 35 11) (mem 35 12) = m1 35 12 := hsk.symm.trans (skp_stop (by rw [← e39]; omega)); rw [hst]; refine ⟨?_, hf, hst.symm⟩; first | (rw [e39]; exact (chr_in (by omega)).symm) | exact (chr_out (by omega)).symm)⟩
        · refine jblk hF [(.aload_n 0, 1), (.dup, 1)] (by decide +kernel) (pc' := 27) (lo' := [(0, (2, 35))]) (st' := [(2, 35), (2, 35)]) rfl ?_
          refine jget hF 13 12 0 12 rfl (by decide) (by decide) rfl wd_1475 (by decide +kernel) (by exact hS.k35) ?_
          refine jblk hF [(.iconst 1, 1), (.iadd, 1)] (by decide +kernel) (pc' := 32) (lo' := [(0, (2, 35))]) (st' := [(0, (m1 35 12) + 1), (2, 35)]) rfl ?_
          refine jput hF 13 12 0 12 rfl (by decide) (by decide) rfl wd_1475 (by decide +kernel) rfl (Or.inl rfl) (by exact hS.k35) (fun h => by cases h) ?_
          refine jgoto hF (off := (-35)) 0 (by decide +kernel) (by decide) ?_
          refine jsub [0] rfl ?_
          refine ih_1 (set2 m1 35 12 ((m1 35 12) + 1)) ?_ ?_ ?_ ?_ ?_
          · exact (SR.s hR_m1 (Or.inr (by decide)))
          · intro a j q; unfold set2; rw [if_neg q]; exact hf a j q
          · rw [s2_s]; omega
          · rw [s2_s, ← hsk]; exact (skp_step (by omega) (by rw [← e39]; omega)).symm
          · rw [s2_s]; omega
  refine jsub [0] rfl ?_
  refine L_2 _ mem ?_ ?_ ?_ ?_ (Nat.lt_succ_self _)
  · exact hR
  · intro a j _; rfl
  · omega
  · rfl
set_option maxHeartbeats 4000000 in
set_option maxRecDepth 100000 in
theorem c_X12_bad {l : Launch} {g : GP} (hG : GH g) {kd : Int → Nat} {ln : Int → Int} {mem : Int → Int → Int} {sz : Nat} (hS : SK kd ln) (hR : SR mem) (h13 : InI (mem 35 13)) : MT l g yX12_bad cX12_bad 1 none 0 0 0 [(2, 35)] kd ln mem sz (pMV (fun mem' => SR mem' ∧ ((mem 35 13 = -1 → mem' = set2 mem 35 13 (mem 35 12)) ∧ (mem 35 13 ≠ -1 → mem' = mem))) kd ln sz) := by
  refine MT_of hG (by decide +kernel) (Nat.le_of_ble_eq_true rfl) (fun z hF hr hn => ?_)
  refine jblk hF [(.aload_n 0, 1), (.aload_n 0, 1)] (by decide +kernel) (pc' := 2) (lo' := [(0, (2, 35))]) (st' := [(2, 35), (2, 35)]) rfl ?_
  refine jget hF 13 13 0 13 rfl (by decide) (by decide) rfl wd_1476 (by decide +kernel) (by exact hS.k35) ?_
  refine jblk hF [(.iconst (-1), 1)] (by decide +kernel) (pc' := 6) (lo' := [(0, (2, 35))]) (st' := [(0, (-1)), (0, mem 35 13), (2, 35)]) rfl ?_
  refine jicmp_ne hF (off := 10) 16 (by decide +kernel) (by decide) (by omega) (by decide) (fun h_1 => ?_) (fun h_1 => ?_)
  · refine jblk hF [(.aload_n 0, 1)] (by decide +kernel) (pc' := 17) (lo' := [(0, (2, 35))]) (st' := [(2, 35), (2, 35)]) rfl ?_
    refine jget hF 13 13 0 13 rfl (by decide) (by decide) rfl wd_1476 (by decide +kernel) (by exact hS.k35) ?_
    refine jput hF 13 13 0 13 rfl (by decide) (by decide) rfl wd_1476 (by decide +kernel) rfl (Or.inl rfl) (by exact hS.k35) (fun h => by cases h) ?_
    refine jvret hF hr (by decide +kernel) ?_
    exact lMV ⟨(SR.s hR (Or.inr (by decide))), by first | exact ⟨fun _ => rfl, fun h => absurd (by omega) h⟩ | exact ⟨fun h => absurd h (by omega), fun _ => set2_id _ _ _⟩⟩
  · refine jblk hF [(.aload_n 0, 1)] (by decide +kernel) (pc' := 10) (lo' := [(0, (2, 35))]) (st' := [(2, 35), (2, 35)]) rfl ?_
    refine jget hF 13 12 0 12 rfl (by decide) (by decide) rfl wd_1475 (by decide +kernel) (by exact hS.k35) ?_
    refine jgoto hF (off := 7) 20 (by decide +kernel) (by decide) ?_
    refine jput hF 13 13 0 13 rfl (by decide) (by decide) rfl wd_1476 (by decide +kernel) rfl (Or.inl rfl) (by exact hS.k35) (fun h => by cases h) ?_
    refine jvret hF hr (by decide +kernel) ?_
    exact lMV ⟨(SR.s hR (Or.inr (by decide))), by first | exact ⟨fun _ => rfl, fun h => absurd (by omega) h⟩ | exact ⟨fun h => absurd h (by omega), fun _ => set2_id _ _ _⟩⟩
set_option maxHeartbeats 4000000 in
set_option maxRecDepth 100000 in
theorem c_X12_say {l : Launch} {g : GP} (hG : GH g) {kd : Int → Nat} {ln : Int → Int} {mem : Int → Int → Int} {sz : Nat} (hS : SK kd ln) (hR : SR mem) (c : Int) (hs : 0 ≤ mem 35 15 ∧ mem 35 15 < 620) : MT l g yX12_say cX12_say 2 none 0 0 0 [(2, 35), (0, c)] kd ln mem sz (pMV (fun mem' => SR mem' ∧ (mem' = set2 (set2 mem 40 (mem 35 15) c) 35 15 (mem 35 15 + 1))) kd ln sz) := by
  refine MT_of hG (by decide +kernel) (Nat.le_of_ble_eq_true rfl) (fun z hF hr hn => ?_)
  refine jblk hF [(.aload_n 0, 1)] (by decide +kernel) (pc' := 1) (lo' := [(0, (2, 35)), (1, (0, c))]) (st' := [(2, 35)]) rfl ?_
  refine jget hF 13 8 2 8 rfl (by decide) (by decide) rfl wd_1471 (by decide +kernel) (by exact hS.k35) ?_
  rw [SR.r8 hR]
  refine jblk hF [(.aload_n 0, 1)] (by decide +kernel) (pc' := 5) (lo' := [(0, (2, 35)), (1, (0, c))]) (st' := [(2, 35), (2, 40)]) rfl ?_
  refine jget hF 13 15 0 15 rfl (by decide) (by decide) rfl wd_1478 (by decide +kernel) (by exact hS.k35) ?_
  refine jblk hF [(.iload_n 1, 1)] (by decide +kernel) (pc' := 9) (lo' := [(0, (2, 35)), (1, (0, c))]) (st' := [(0, c), (0, mem 35 15), (2, 40)]) rfl ?_
  refine jiast hF (by decide +kernel) (by decide) (by exact hS.k40) (by omega) (by have := hS.l40; omega) ?_
  refine jblk hF [(.aload_n 0, 1), (.dup, 1)] (by decide +kernel) (pc' := 12) (lo' := [(0, (2, 35)), (1, (0, c))]) (st' := [(2, 35), (2, 35)]) rfl ?_
  refine jget hF 13 15 0 15 rfl (by decide) (by decide) rfl wd_1478 (by decide +kernel) (by exact hS.k35) ?_
  rw [show (set2 mem 40 (mem 35 15) c) 35 15 = mem 35 15 from (s2_a (by decide))]
  refine jblk hF [(.iconst 1, 1), (.iadd, 1)] (by decide +kernel) (pc' := 17) (lo' := [(0, (2, 35)), (1, (0, c))]) (st' := [(0, (mem 35 15) + 1), (2, 35)]) rfl ?_
  refine jput hF 13 15 0 15 rfl (by decide) (by decide) rfl wd_1478 (by decide +kernel) rfl (Or.inl rfl) (by exact hS.k35) (fun h => by cases h) ?_
  refine jvret hF hr (by decide +kernel) ?_
  exact lMV ⟨(SR.s (SR.s hR (Or.inl (by decide))) (Or.inr (by decide))), by rfl⟩
set_option maxHeartbeats 4000000 in
set_option maxRecDepth 100000 in
theorem c_X12_isDigit {l : Launch} {g : GP} (hG : GH g) {kd : Int → Nat} {ln : Int → Int} {mem : Int → Int → Int} {sz : Nat} (c : Int) (h_c : InI c) : MT l g yX12_isDigit cX12_isDigit 1 (some .boolean) 0 0 0 [(0, c)] kd ln mem sz (pB (48 ≤ c ∧ c ≤ 57) kd ln mem sz) := by
  refine MT_of hG (by decide +kernel) (Nat.le_of_ble_eq_true rfl) (fun z hF hr hn => ?_)
  refine jblk hF [(.iload_n 0, 1), (.bipush 48, 2)] (by decide +kernel) (pc' := 3) (lo' := [(0, (0, c))]) (st' := [(0, 48), (0, c)]) rfl ?_
  refine jicmp_lt hF (off := 13) 16 (by decide +kernel) (by decide) (by omega) (by decide) (fun h_1 => ?_) (fun h_1 => ?_)
  · refine jblk hF [(.iconst 0, 1)] (by decide +kernel) (pc' := 17) (lo' := [(0, (0, c))]) (st' := [(0, 0)]) rfl ?_
    refine jzret hF hr (by omega) (by decide +kernel) ?_
    exact lB0 (by omega)
  · refine jblk hF [(.iload_n 0, 1), (.bipush 57, 2)] (by decide +kernel) (pc' := 9) (lo' := [(0, (0, c))]) (st' := [(0, 57), (0, c)]) rfl ?_
    refine jicmp_gt hF (off := 7) 16 (by decide +kernel) (by decide) (by omega) (by decide) (fun h_2 => ?_) (fun h_2 => ?_)
    · refine jblk hF [(.iconst 0, 1)] (by decide +kernel) (pc' := 17) (lo' := [(0, (0, c))]) (st' := [(0, 0)]) rfl ?_
      refine jzret hF hr (by omega) (by decide +kernel) ?_
      exact lB0 (by omega)
    · refine jblk hF [(.iconst 1, 1)] (by decide +kernel) (pc' := 13) (lo' := [(0, (0, c))]) (st' := [(0, 1)]) rfl ?_
      refine jgoto hF (off := 4) 17 (by decide +kernel) (by decide) ?_
      refine jzret hF hr (by omega) (by decide +kernel) ?_
      exact lB1 (by omega)
set_option maxHeartbeats 4000000 in
set_option maxRecDepth 100000 in
theorem c_X12_isSign {l : Launch} {g : GP} (hG : GH g) {kd : Int → Nat} {ln : Int → Int} {mem : Int → Int → Int} {sz : Nat} (c : Int) (h_c : InI c) : MT l g yX12_isSign cX12_isSign 1 (some .boolean) 0 0 0 [(0, c)] kd ln mem sz (pB (isSg c) kd ln mem sz) := by
  refine MT_of hG (by decide +kernel) (Nat.le_of_ble_eq_true rfl) (fun z hF hr hn => ?_)
  refine jblk hF [(.iload_n 0, 1), (.bipush 61, 2)] (by decide +kernel) (pc' := 3) (lo' := [(0, (0, c))]) (st' := [(0, 61), (0, c)]) rfl ?_
  refine jicmp_eq hF (off := 15) 18 (by decide +kernel) (by decide) (by omega) (by decide) (fun h_1 => ?_) (fun h_1 => ?_)
  · refine jblk hF [(.iconst 1, 1)] (by decide +kernel) (pc' := 19) (lo' := [(0, (0, c))]) (st' := [(0, 1)]) rfl ?_
    refine jgoto hF (off := 4) 23 (by decide +kernel) (by decide) ?_
    refine jzret hF hr (by omega) (by decide +kernel) ?_
    exact lB1 (by omega)
  · refine jblk hF [(.iload_n 0, 1), (.bipush 60, 2)] (by decide +kernel) (pc' := 9) (lo' := [(0, (0, c))]) (st' := [(0, 60), (0, c)]) rfl ?_
    refine jicmp_eq hF (off := 9) 18 (by decide +kernel) (by decide) (by omega) (by decide) (fun h_2 => ?_) (fun h_2 => ?_)
    · refine jblk hF [(.iconst 1, 1)] (by decide +kernel) (pc' := 19) (lo' := [(0, (0, c))]) (st' := [(0, 1)]) rfl ?_
      refine jgoto hF (off := 4) 23 (by decide +kernel) (by decide) ?_
      refine jzret hF hr (by omega) (by decide +kernel) ?_
      exact lB1 (by omega)
    · refine jblk hF [(.iload_n 0, 1), (.bipush 62, 2)] (by decide +kernel) (pc' := 15) (lo' := [(0, (0, c))]) (st' := [(0, 62), (0, c)]) rfl ?_
      refine jicmp_ne hF (off := 7) 22 (by decide +kernel) (by decide) (by omega) (by decide) (fun h_3 => ?_) (fun h_3 => ?_)
      · refine jblk hF [(.iconst 0, 1)] (by decide +kernel) (pc' := 23) (lo' := [(0, (0, c))]) (st' := [(0, 0)]) rfl ?_
        refine jzret hF hr (by omega) (by decide +kernel) ?_
        exact lB0 (by omega)
      · refine jblk hF [(.iconst 1, 1)] (by decide +kernel) (pc' := 19) (lo' := [(0, (0, c))]) (st' := [(0, 1)]) rfl ?_
        refine jgoto hF (off := 4) 23 (by decide +kernel) (by decide) ?_
        refine jzret hF hr (by omega) (by decide +kernel) ?_
        exact lB1 (by omega)
set_option maxHeartbeats 4000000 in
set_option maxRecDepth 100000 in
theorem c_X12_isLabel {l : Launch} {g : GP} (hG : GH g) {kd : Int → Nat} {ln : Int → Int} {mem : Int → Int → Int} {sz : Nat} (c : Int) (h_c : InI c) : MT l g yX12_isLabel cX12_isLabel 1 (some .boolean) 0 0 0 [(0, c)] kd ln mem sz (pB (isLb c) kd ln mem sz) := by
  refine MT_of hG (by decide +kernel) (Nat.le_of_ble_eq_true rfl) (fun z hF hr hn => ?_)
  refine jblk hF [(.iload_n 0, 1)] (by decide +kernel) (pc' := 1) (lo' := [(0, (0, c))]) (st' := [(0, c)]) rfl ?_
  by_cases h_1 : c = 97
  · refine jtabIn hF (dflt := 97) (lo' := 97) (hi := 116) (offs := #[95, 97, 95, 97, 97, 95, 97, 95, 97, 97, 95, 97, 95, 97, 95, 95, 97, 97, 95, 95]) (len := 95) 97 95 96 (by decide +kernel) h_1 (by decide) (by decide) (by decide) rfl (by decide) ?_
    refine jblk hF [(.iconst 1, 1)] (by decide +kernel) (pc' := 97) (lo' := [(0, (0, c))]) (st' := [(0, 1)]) rfl ?_
    refine jzret hF hr (by omega) (by decide +kernel) ?_
    exact lB1 (by omega)
  by_cases h_2 : c = 98
  · refine jtabIn hF (dflt := 97) (lo' := 97) (hi := 116) (offs := #[95, 97, 95, 97, 97, 95, 97, 95, 97, 97, 95, 97, 95, 97, 95, 95, 97, 97, 95, 95]) (len := 95) 98 97 98 (by decide +kernel) h_2 (by decide) (by decide) (by decide) rfl (by decide) ?_
    refine jblk hF [(.iconst 0, 1)] (by decide +kernel) (pc' := 99) (lo' := [(0, (0, c))]) (st' := [(0, 0)]) rfl ?_
    refine jzret hF hr (by omega) (by decide +kernel) ?_
    exact lB0 (by omega)
  by_cases h_3 : c = 99
  · refine jtabIn hF (dflt := 97) (lo' := 97) (hi := 116) (offs := #[95, 97, 95, 97, 97, 95, 97, 95, 97, 97, 95, 97, 95, 97, 95, 95, 97, 97, 95, 95]) (len := 95) 99 95 96 (by decide +kernel) h_3 (by decide) (by decide) (by decide) rfl (by decide) ?_
    refine jblk hF [(.iconst 1, 1)] (by decide +kernel) (pc' := 97) (lo' := [(0, (0, c))]) (st' := [(0, 1)]) rfl ?_
    refine jzret hF hr (by omega) (by decide +kernel) ?_
    exact lB1 (by omega)
  by_cases h_4 : c = 100
  · refine jtabIn hF (dflt := 97) (lo' := 97) (hi := 116) (offs := #[95, 97, 95, 97, 97, 95, 97, 95, 97, 97, 95, 97, 95, 97, 95, 95, 97, 97, 95, 95]) (len := 95) 100 97 98 (by decide +kernel) h_4 (by decide) (by decide) (by decide) rfl (by decide) ?_
    refine jblk hF [(.iconst 0, 1)] (by decide +kernel) (pc' := 99) (lo' := [(0, (0, c))]) (st' := [(0, 0)]) rfl ?_
    refine jzret hF hr (by omega) (by decide +kernel) ?_
    exact lB0 (by omega)
  by_cases h_5 : c = 101
  · refine jtabIn hF (dflt := 97) (lo' := 97) (hi := 116) (offs := #[95, 97, 95, 97, 97, 95, 97, 95, 97, 97, 95, 97, 95, 97, 95, 95, 97, 97, 95, 95]) (len := 95) 101 97 98 (by decide +kernel) h_5 (by decide) (by decide) (by decide) rfl (by decide) ?_
    refine jblk hF [(.iconst 0, 1)] (by decide +kernel) (pc' := 99) (lo' := [(0, (0, c))]) (st' := [(0, 0)]) rfl ?_
    refine jzret hF hr (by omega) (by decide +kernel) ?_
    exact lB0 (by omega)
  by_cases h_6 : c = 102
  · refine jtabIn hF (dflt := 97) (lo' := 97) (hi := 116) (offs := #[95, 97, 95, 97, 97, 95, 97, 95, 97, 97, 95, 97, 95, 97, 95, 95, 97, 97, 95, 95]) (len := 95) 102 95 96 (by decide +kernel) h_6 (by decide) (by decide) (by decide) rfl (by decide) ?_
    refine jblk hF [(.iconst 1, 1)] (by decide +kernel) (pc' := 97) (lo' := [(0, (0, c))]) (st' := [(0, 1)]) rfl ?_
    refine jzret hF hr (by omega) (by decide +kernel) ?_
    exact lB1 (by omega)
  by_cases h_7 : c = 103
  · refine jtabIn hF (dflt := 97) (lo' := 97) (hi := 116) (offs := #[95, 97, 95, 97, 97, 95, 97, 95, 97, 97, 95, 97, 95, 97, 95, 95, 97, 97, 95, 95]) (len := 95) 103 97 98 (by decide +kernel) h_7 (by decide) (by decide) (by decide) rfl (by decide) ?_
    refine jblk hF [(.iconst 0, 1)] (by decide +kernel) (pc' := 99) (lo' := [(0, (0, c))]) (st' := [(0, 0)]) rfl ?_
    refine jzret hF hr (by omega) (by decide +kernel) ?_
    exact lB0 (by omega)
  by_cases h_8 : c = 104
  · refine jtabIn hF (dflt := 97) (lo' := 97) (hi := 116) (offs := #[95, 97, 95, 97, 97, 95, 97, 95, 97, 97, 95, 97, 95, 97, 95, 95, 97, 97, 95, 95]) (len := 95) 104 95 96 (by decide +kernel) h_8 (by decide) (by decide) (by decide) rfl (by decide) ?_
    refine jblk hF [(.iconst 1, 1)] (by decide +kernel) (pc' := 97) (lo' := [(0, (0, c))]) (st' := [(0, 1)]) rfl ?_
    refine jzret hF hr (by omega) (by decide +kernel) ?_
    exact lB1 (by omega)
  by_cases h_9 : c = 105
  · refine jtabIn hF (dflt := 97) (lo' := 97) (hi := 116) (offs := #[95, 97, 95, 97, 97, 95, 97, 95, 97, 97, 95, 97, 95, 97, 95, 95, 97, 97, 95, 95]) (len := 95) 105 97 98 (by decide +kernel) h_9 (by decide) (by decide) (by decide) rfl (by decide) ?_
    refine jblk hF [(.iconst 0, 1)] (by decide +kernel) (pc' := 99) (lo' := [(0, (0, c))]) (st' := [(0, 0)]) rfl ?_
    refine jzret hF hr (by omega) (by decide +kernel) ?_
    exact lB0 (by omega)
  by_cases h_10 : c = 106
  · refine jtabIn hF (dflt := 97) (lo' := 97) (hi := 116) (offs := #[95, 97, 95, 97, 97, 95, 97, 95, 97, 97, 95, 97, 95, 97, 95, 95, 97, 97, 95, 95]) (len := 95) 106 97 98 (by decide +kernel) h_10 (by decide) (by decide) (by decide) rfl (by decide) ?_
    refine jblk hF [(.iconst 0, 1)] (by decide +kernel) (pc' := 99) (lo' := [(0, (0, c))]) (st' := [(0, 0)]) rfl ?_
    refine jzret hF hr (by omega) (by decide +kernel) ?_
    exact lB0 (by omega)
  by_cases h_11 : c = 107
  · refine jtabIn hF (dflt := 97) (lo' := 97) (hi := 116) (offs := #[95, 97, 95, 97, 97, 95, 97, 95, 97, 97, 95, 97, 95, 97, 95, 95, 97, 97, 95, 95]) (len := 95) 107 95 96 (by decide +kernel) h_11 (by decide) (by decide) (by decide) rfl (by decide) ?_
    refine jblk hF [(.iconst 1, 1)] (by decide +kernel) (pc' := 97) (lo' := [(0, (0, c))]) (st' := [(0, 1)]) rfl ?_
    refine jzret hF hr (by omega) (by decide +kernel) ?_
    exact lB1 (by omega)
  by_cases h_12 : c = 108
  · refine jtabIn hF (dflt := 97) (lo' := 97) (hi := 116) (offs := #[95, 97, 95, 97, 97, 95, 97, 95, 97, 97, 95, 97, 95, 97, 95, 95, 97, 97, 95, 95]) (len := 95) 108 97 98 (by decide +kernel) h_12 (by decide) (by decide) (by decide) rfl (by decide) ?_
    refine jblk hF [(.iconst 0, 1)] (by decide +kernel) (pc' := 99) (lo' := [(0, (0, c))]) (st' := [(0, 0)]) rfl ?_
    refine jzret hF hr (by omega) (by decide +kernel) ?_
    exact lB0 (by omega)
  by_cases h_13 : c = 109
  · refine jtabIn hF (dflt := 97) (lo' := 97) (hi := 116) (offs := #[95, 97, 95, 97, 97, 95, 97, 95, 97, 97, 95, 97, 95, 97, 95, 95, 97, 97, 95, 95]) (len := 95) 109 95 96 (by decide +kernel) h_13 (by decide) (by decide) (by decide) rfl (by decide) ?_
    refine jblk hF [(.iconst 1, 1)] (by decide +kernel) (pc' := 97) (lo' := [(0, (0, c))]) (st' := [(0, 1)]) rfl ?_
    refine jzret hF hr (by omega) (by decide +kernel) ?_
    exact lB1 (by omega)
  by_cases h_14 : c = 110
  · refine jtabIn hF (dflt := 97) (lo' := 97) (hi := 116) (offs := #[95, 97, 95, 97, 97, 95, 97, 95, 97, 97, 95, 97, 95, 97, 95, 95, 97, 97, 95, 95]) (len := 95) 110 97 98 (by decide +kernel) h_14 (by decide) (by decide) (by decide) rfl (by decide) ?_
    refine jblk hF [(.iconst 0, 1)] (by decide +kernel) (pc' := 99) (lo' := [(0, (0, c))]) (st' := [(0, 0)]) rfl ?_
    refine jzret hF hr (by omega) (by decide +kernel) ?_
    exact lB0 (by omega)
  by_cases h_15 : c = 111
  · refine jtabIn hF (dflt := 97) (lo' := 97) (hi := 116) (offs := #[95, 97, 95, 97, 97, 95, 97, 95, 97, 97, 95, 97, 95, 97, 95, 95, 97, 97, 95, 95]) (len := 95) 111 95 96 (by decide +kernel) h_15 (by decide) (by decide) (by decide) rfl (by decide) ?_
    refine jblk hF [(.iconst 1, 1)] (by decide +kernel) (pc' := 97) (lo' := [(0, (0, c))]) (st' := [(0, 1)]) rfl ?_
    refine jzret hF hr (by omega) (by decide +kernel) ?_
    exact lB1 (by omega)
  by_cases h_16 : c = 112
  · refine jtabIn hF (dflt := 97) (lo' := 97) (hi := 116) (offs := #[95, 97, 95, 97, 97, 95, 97, 95, 97, 97, 95, 97, 95, 97, 95, 95, 97, 97, 95, 95]) (len := 95) 112 95 96 (by decide +kernel) h_16 (by decide) (by decide) (by decide) rfl (by decide) ?_
    refine jblk hF [(.iconst 1, 1)] (by decide +kernel) (pc' := 97) (lo' := [(0, (0, c))]) (st' := [(0, 1)]) rfl ?_
    refine jzret hF hr (by omega) (by decide +kernel) ?_
    exact lB1 (by omega)
  by_cases h_17 : c = 113
  · refine jtabIn hF (dflt := 97) (lo' := 97) (hi := 116) (offs := #[95, 97, 95, 97, 97, 95, 97, 95, 97, 97, 95, 97, 95, 97, 95, 95, 97, 97, 95, 95]) (len := 95) 113 97 98 (by decide +kernel) h_17 (by decide) (by decide) (by decide) rfl (by decide) ?_
    refine jblk hF [(.iconst 0, 1)] (by decide +kernel) (pc' := 99) (lo' := [(0, (0, c))]) (st' := [(0, 0)]) rfl ?_
    refine jzret hF hr (by omega) (by decide +kernel) ?_
    exact lB0 (by omega)
  by_cases h_18 : c = 114
  · refine jtabIn hF (dflt := 97) (lo' := 97) (hi := 116) (offs := #[95, 97, 95, 97, 97, 95, 97, 95, 97, 97, 95, 97, 95, 97, 95, 95, 97, 97, 95, 95]) (len := 95) 114 97 98 (by decide +kernel) h_18 (by decide) (by decide) (by decide) rfl (by decide) ?_
    refine jblk hF [(.iconst 0, 1)] (by decide +kernel) (pc' := 99) (lo' := [(0, (0, c))]) (st' := [(0, 0)]) rfl ?_
    refine jzret hF hr (by omega) (by decide +kernel) ?_
    exact lB0 (by omega)
  by_cases h_19 : c = 115
  · refine jtabIn hF (dflt := 97) (lo' := 97) (hi := 116) (offs := #[95, 97, 95, 97, 97, 95, 97, 95, 97, 97, 95, 97, 95, 97, 95, 95, 97, 97, 95, 95]) (len := 95) 115 95 96 (by decide +kernel) h_19 (by decide) (by decide) (by decide) rfl (by decide) ?_
    refine jblk hF [(.iconst 1, 1)] (by decide +kernel) (pc' := 97) (lo' := [(0, (0, c))]) (st' := [(0, 1)]) rfl ?_
    refine jzret hF hr (by omega) (by decide +kernel) ?_
    exact lB1 (by omega)
  by_cases h_20 : c = 116
  · refine jtabIn hF (dflt := 97) (lo' := 97) (hi := 116) (offs := #[95, 97, 95, 97, 97, 95, 97, 95, 97, 97, 95, 97, 95, 97, 95, 95, 97, 97, 95, 95]) (len := 95) 116 95 96 (by decide +kernel) h_20 (by decide) (by decide) (by decide) rfl (by decide) ?_
    refine jblk hF [(.iconst 1, 1)] (by decide +kernel) (pc' := 97) (lo' := [(0, (0, c))]) (st' := [(0, 1)]) rfl ?_
    refine jzret hF hr (by omega) (by decide +kernel) ?_
    exact lB1 (by omega)
  refine jtabOut hF (dflt := 97) (lo' := 97) (hi := 116) (offs := #[95, 97, 95, 97, 97, 95, 97, 95, 97, 97, 95, 97, 95, 97, 95, 95, 97, 97, 95, 95]) (len := 95) 98 (by decide +kernel) (by omega) (by omega) (by decide) ?_
  refine jblk hF [(.iconst 0, 1)] (by decide +kernel) (pc' := 99) (lo' := [(0, (0, c))]) (st' := [(0, 0)]) rfl ?_
  refine jzret hF hr (by omega) (by decide +kernel) ?_
  exact lB0 (by omega)
set_option maxHeartbeats 4000000 in
set_option maxRecDepth 100000 in
theorem c_X12_opens {l : Launch} {g : GP} (hG : GH g) {kd : Int → Nat} {ln : Int → Int} {mem : Int → Int → Int} {sz : Nat} (hS : SK kd ln) (hR : SR mem) (h13 : InI (mem 35 13)) (h14 : InI (mem 35 14)) : MT l g yX12_opens cX12_opens 1 (some .boolean) 1 0 0 [(2, 35)] kd ln mem sz (pMB (fun c mem' => SR mem' ∧ ((c ↔ mem 35 14 ≠ 6) ∧ (mem 35 14 ≠ 6 → mem' = set2 (set2 mem 35 14 (mem 35 14 + 1)) 35 12 (mem 35 12 + 1)) ∧ (mem 35 14 = 6 → mem 35 13 = -1 → mem' = set2 mem 35 13 (mem 35 12)))) kd ln sz) := by
  refine MT_of hG (by decide +kernel) (Nat.le_of_ble_eq_true rfl) (fun z hF hr hn => ?_)
  refine jblk hF [(.aload_n 0, 1)] (by decide +kernel) (pc' := 1) (lo' := [(0, (2, 35))]) (st' := [(2, 35)]) rfl ?_
  refine jget hF 13 14 0 14 rfl (by decide) (by decide) rfl wd_1477 (by decide +kernel) (by exact hS.k35) ?_
  refine jblk hF [(.bipush 6, 2)] (by decide +kernel) (pc' := 6) (lo' := [(0, (2, 35))]) (st' := [(0, 6), (0, mem 35 14)]) rfl ?_
  refine jicmp_ne hF (off := 9) 15 (by decide +kernel) (by decide) (by omega) (by decide) (fun h_1 => ?_) (fun h_1 => ?_)
  · refine jblk hF [(.aload_n 0, 1), (.dup, 1)] (by decide +kernel) (pc' := 17) (lo' := [(0, (2, 35))]) (st' := [(2, 35), (2, 35)]) rfl ?_
    refine jget hF 13 14 0 14 rfl (by decide) (by decide) rfl wd_1477 (by decide +kernel) (by exact hS.k35) ?_
    refine jblk hF [(.iconst 1, 1), (.iadd, 1)] (by decide +kernel) (pc' := 22) (lo' := [(0, (2, 35))]) (st' := [(0, (mem 35 14) + 1), (2, 35)]) rfl ?_
    refine jput hF 13 14 0 14 rfl (by decide) (by decide) rfl wd_1477 (by decide +kernel) rfl (Or.inl rfl) (by exact hS.k35) (fun h => by cases h) ?_
    refine jblk hF [(.aload_n 0, 1), (.dup, 1)] (by decide +kernel) (pc' := 27) (lo' := [(0, (2, 35))]) (st' := [(2, 35), (2, 35)]) rfl ?_
    refine jget hF 13 12 0 12 rfl (by decide) (by decide) rfl wd_1475 (by decide +kernel) (by exact hS.k35) ?_
    rw [show (set2 mem 35 14 ((mem 35 14) + 1)) 35 12 = mem 35 12 from (s2_k (by decide))]
    refine jblk hF [(.iconst 1, 1), (.iadd, 1)] (by decide +kernel) (pc' := 32) (lo' := [(0, (2, 35))]) (st' := [(0, (mem 35 12) + 1), (2, 35)]) rfl ?_
    refine jput hF 13 12 0 12 rfl (by decide) (by decide) rfl wd_1475 (by decide +kernel) rfl (Or.inl rfl) (by exact hS.k35) (fun h => by cases h) ?_
    refine jblk hF [(.iconst 1, 1)] (by decide +kernel) (pc' := 36) (lo' := [(0, (2, 35))]) (st' := [(0, 1)]) rfl ?_
    refine jzret hF hr (by omega) (by decide +kernel) ?_
    exact lMB1 ⟨(SR.s (SR.s hR (Or.inr (by decide))) (Or.inr (by decide))), by first | exact ⟨⟨fun _ => by omega, fun _ => trivial⟩, fun _ => rfl, fun h => absurd h (by omega)⟩ | exact ⟨⟨fun h => h.elim, fun h => absurd (by omega) h⟩, fun h => absurd (by omega) h, fun _ h => hbd.1 h⟩⟩
  · refine jblk hF [(.aload_n 0, 1)] (by decide +kernel) (pc' := 10) (lo' := [(0, (2, 35))]) (st' := [(2, 35)]) rfl ?_
    refine jcallV hF (c_X12_bad hG hS hR (by omega)) MW_X12_bad 13 (by decide) (by exact hS.k35) wd_1836 wd_1838 wd_p56 (by decide +kernel) [] rfl rfl (by decide) (Nat.le_of_ble_eq_true rfl) (by decide) (kMV (fun m_2 h_3 => ?_))
    obtain ⟨hR_m_2, h_3⟩ := h_3
    have hbd := h_3
    refine jblk hF [(.iconst 0, 1)] (by decide +kernel) (pc' := 14) (lo' := [(0, (2, 35))]) (st' := [(0, 0)]) rfl ?_
    refine jzret hF hr (by omega) (by decide +kernel) ?_
    exact lMB0 ⟨hR_m_2, by first | exact ⟨⟨fun _ => by omega, fun _ => trivial⟩, fun _ => rfl, fun h => absurd h (by omega)⟩ | exact ⟨⟨fun h => h.elim, fun h => absurd (by omega) h⟩, fun h => absurd (by omega) h, fun _ h => hbd.1 h⟩⟩
set_option maxHeartbeats 4000000 in
set_option maxRecDepth 100000 in
theorem c_X12_closes {l : Launch} {g : GP} (hG : GH g) {kd : Int → Nat} {ln : Int → Int} {mem : Int → Int → Int} {sz : Nat} (hS : SK kd ln) (hR : SR mem) (ch : Int) (w : Int) (h_ch : InI ch) (hPT : PTX mem) (hbd : -1 ≤ mem 35 13 ∧ mem 35 13 ≤ 200 ∧ 0 ≤ mem 35 12 ∧ mem 35 12 ≤ 167 ∧ 0 ≤ mem 35 15 ∧ mem 35 15 ≤ 340) (hc0 : 0 ≤ ch) (hpc : mem 35 13 = -1 → PC mem w) : MT l g yX12_closes cX12_closes 2 none 1 0 0 [(2, 35), (0, ch)] kd ln mem sz (pMV (fun mem' => SR mem' ∧ ((mem 35 13 = -1 → PS mem mem' 1 0 (-1) (clsP (mem 39) (mem 35 11) ch (mem 35 12) [])) ∧ (mem 35 13 ≠ -1 → mem' = set2 (set2 mem 35 12 (mem 35 12 + 1)) 35 14 (mem 35 14 - 1)))) kd ln sz) := by
  refine MT_of hG (by decide +kernel) (Nat.le_of_ble_eq_true rfl) (fun z hF hr hn => ?_)
  refine jblk hF [(.aload_n 0, 1)] (by decide +kernel) (pc' := 1) (lo' := [(0, (2, 35)), (1, (0, ch))]) (st' := [(2, 35)]) rfl ?_
  refine jget hF 13 13 0 13 rfl (by decide) (by decide) rfl wd_1476 (by decide +kernel) (by exact hS.k35) ?_
  refine jblk hF [(.iconst (-1), 1)] (by decide +kernel) (pc' := 5) (lo' := [(0, (2, 35)), (1, (0, ch))]) (st' := [(0, (-1)), (0, mem 35 13)]) rfl ?_
  refine jicmp_ne hF (off := 15) 20 (by decide +kernel) (by decide) (by omega) (by decide) (fun h_1 => ?_) (fun h_1 => ?_)
  · refine jblk hF [(.aload_n 0, 1), (.dup, 1)] (by decide +kernel) (pc' := 22) (lo' := [(0, (2, 35)), (1, (0, ch))]) (st' := [(2, 35), (2, 35)]) rfl ?_
    refine jget hF 13 12 0 12 rfl (by decide) (by decide) rfl wd_1475 (by decide +kernel) (by exact hS.k35) ?_
    refine jblk hF [(.iconst 1, 1), (.iadd, 1)] (by decide +kernel) (pc' := 27) (lo' := [(0, (2, 35)), (1, (0, ch))]) (st' := [(0, (mem 35 12) + 1), (2, 35)]) rfl ?_
    refine jput hF 13 12 0 12 rfl (by decide) (by decide) rfl wd_1475 (by decide +kernel) rfl (Or.inl rfl) (by exact hS.k35) (fun h => by cases h) ?_
    refine jblk hF [(.aload_n 0, 1), (.dup, 1)] (by decide +kernel) (pc' := 32) (lo' := [(0, (2, 35)), (1, (0, ch))]) (st' := [(2, 35), (2, 35)]) rfl ?_
    refine jget hF 13 14 0 14 rfl (by decide) (by decide) rfl wd_1477 (by decide +kernel) (by exact hS.k35) ?_
    rw [show (set2 mem 35 12 ((mem 35 12) + 1)) 35 14 = mem 35 14 from (s2_k (by decide))]
    refine jblk hF [(.iconst 1, 1), (.isub, 1)] (by decide +kernel) (pc' := 37) (lo' := [(0, (2, 35)), (1, (0, ch))]) (st' := [(0, (mem 35 14) - 1), (2, 35)]) rfl ?_
    refine jput hF 13 14 0 14 rfl (by decide) (by decide) rfl wd_1477 (by decide +kernel) rfl (Or.inl rfl) (by exact hS.k35) (fun h => by cases h) ?_
    refine jvret hF hr (by decide +kernel) ?_
    exact lMV ⟨(SR.s (SR.s hR (Or.inr (by decide))) (Or.inr (by decide))), by (first
        | exact ⟨fun h => absurd h (by omega), fun _ => rfl⟩
        | (refine ⟨fun _ => ?_, fun h => absurd (by omega) h⟩; rw [show clsP (mem 39) (mem 35 11) ch (mem 35 12) [] = okP (skp (mem 39) (mem 35 11) (mem 35 12) + 1) [] from if_pos (by omega)]; exact (((hA.adv (chr_lt (mem 39) (by omega))).deepS).weak (by omega) (by omega)))
        | (refine ⟨fun _ => ?_, fun h => absurd (by omega) h⟩; rw [show clsP (mem 39) (mem 35 11) ch (mem 35 12) [] = erP (skp (mem 39) (mem 35 11) (mem 35 12)) from if_neg (by omega)]; rw [hbb]; exact ((((hA.bad (by omega) (by omega)).adve (by omega)).deepS).weak (by omega) (by omega)).er (by show skp (mem 39) (mem 35 11) (mem 35 12) ≠ -1; omega) rfl))⟩
  · refine jblk hF [(.aload_n 0, 1)] (by decide +kernel) (pc' := 9) (lo' := [(0, (2, 35)), (1, (0, ch))]) (st' := [(2, 35)]) rfl ?_
    refine jcallV hF (c_X12_look hG hS hR (by first | exact hPT | assumption) (by omega)) MW_X12_look 13 (by decide) (by exact hS.k35) wd_1829 wd_1831 wd_p55 (by decide +kernel) [] rfl rfl (by decide) (Nat.le_of_ble_eq_true rfl) (by decide) (kMR (fun v_4 m_2 h_3 => ?_))
    obtain ⟨hR_m_2, h_3⟩ := h_3
    obtain ⟨hv, hl⟩ := h_3
    have hA := (PS.rf (u := 0) (hpc (by omega))).look (by omega) hl
    rw [bnd_ok] at hA
    have hsk := skp_f (mem 39) (mem 35 11) (mem 35 12)
    have hcb : -1 ≤ v_4 ∧ v_4 ≤ 255 := by rw [hv]; unfold chr; split; (have := hPT.2.2 _ (by omega : 0 ≤ skp (mem 39) (mem 35 11) (mem 35 12)) (by omega); omega); omega
    have l13 := hl.1 35 13 (by decide)
    refine jblk hF [(.iload_n 1, 1)] (by decide +kernel) (pc' := 13) (lo' := [(0, (2, 35)), (1, (0, ch))]) (st' := [(0, ch), (0, v_4)]) rfl ?_
    refine jicmp_eq hF (off := 7) 20 (by decide +kernel) (by decide) (by omega) (by omega) (fun h_5 => ?_) (fun h_5 => ?_)
    · refine jblk hF [(.aload_n 0, 1), (.dup, 1)] (by decide +kernel) (pc' := 22) (lo' := [(0, (2, 35)), (1, (0, ch))]) (st' := [(2, 35), (2, 35)]) rfl ?_
      refine jget hF 13 12 0 12 rfl (by decide) (by decide) rfl wd_1475 (by decide +kernel) (by exact hS.k35) ?_
      refine jblk hF [(.iconst 1, 1), (.iadd, 1)] (by decide +kernel) (pc' := 27) (lo' := [(0, (2, 35)), (1, (0, ch))]) (st' := [(0, (m_2 35 12) + 1), (2, 35)]) rfl ?_
      refine jput hF 13 12 0 12 rfl (by decide) (by decide) rfl wd_1475 (by decide +kernel) rfl (Or.inl rfl) (by exact hS.k35) (fun h => by cases h) ?_
      refine jblk hF [(.aload_n 0, 1), (.dup, 1)] (by decide +kernel) (pc' := 32) (lo' := [(0, (2, 35)), (1, (0, ch))]) (st' := [(2, 35), (2, 35)]) rfl ?_
      refine jget hF 13 14 0 14 rfl (by decide) (by decide) rfl wd_1477 (by decide +kernel) (by exact hS.k35) ?_
      rw [show (set2 m_2 35 12 ((m_2 35 12) + 1)) 35 14 = m_2 35 14 from (s2_k (by decide))]
      refine jblk hF [(.iconst 1, 1), (.isub, 1)] (by decide +kernel) (pc' := 37) (lo' := [(0, (2, 35)), (1, (0, ch))]) (st' := [(0, (m_2 35 14) - 1), (2, 35)]) rfl ?_
      refine jput hF 13 14 0 14 rfl (by decide) (by decide) rfl wd_1477 (by decide +kernel) rfl (Or.inl rfl) (by exact hS.k35) (fun h => by cases h) ?_
      refine jvret hF hr (by decide +kernel) ?_
      exact lMV ⟨(SR.s (SR.s hR_m_2 (Or.inr (by decide))) (Or.inr (by decide))), by (first
          | exact ⟨fun h => absurd h (by omega), fun _ => rfl⟩
          | (refine ⟨fun _ => ?_, fun h => absurd (by omega) h⟩; rw [show clsP (mem 39) (mem 35 11) ch (mem 35 12) [] = okP (skp (mem 39) (mem 35 11) (mem 35 12) + 1) [] from if_pos (by omega)]; exact (((hA.adv (chr_lt (mem 39) (by omega))).deepS).weak (by omega) (by omega)))
          | (refine ⟨fun _ => ?_, fun h => absurd (by omega) h⟩; rw [show clsP (mem 39) (mem 35 11) ch (mem 35 12) [] = erP (skp (mem 39) (mem 35 11) (mem 35 12)) from if_neg (by omega)]; rw [hbb]; exact ((((hA.bad (by omega) (by omega)).adve (by omega)).deepS).weak (by omega) (by omega)).er (by show skp (mem 39) (mem 35 11) (mem 35 12) ≠ -1; omega) rfl))⟩
    · refine jblk hF [(.aload_n 0, 1)] (by decide +kernel) (pc' := 17) (lo' := [(0, (2, 35)), (1, (0, ch))]) (st' := [(2, 35)]) rfl ?_
      refine jcallV hF (c_X12_bad hG hS hR_m_2 (by omega)) MW_X12_bad 13 (by decide) (by exact hS.k35) wd_1836 wd_1838 wd_p56 (by decide +kernel) [] rfl rfl (by decide) (Nat.le_of_ble_eq_true rfl) (by decide) (kMV (fun m_6 h_7 => ?_))
      obtain ⟨hR_m_6, h_7⟩ := h_7
      have hbb := h_7.1 (by omega)
      refine jblk hF [(.aload_n 0, 1), (.dup, 1)] (by decide +kernel) (pc' := 22) (lo' := [(0, (2, 35)), (1, (0, ch))]) (st' := [(2, 35), (2, 35)]) rfl ?_
      refine jget hF 13 12 0 12 rfl (by decide) (by decide) rfl wd_1475 (by decide +kernel) (by exact hS.k35) ?_
      refine jblk hF [(.iconst 1, 1), (.iadd, 1)] (by decide +kernel) (pc' := 27) (lo' := [(0, (2, 35)), (1, (0, ch))]) (st' := [(0, (m_6 35 12) + 1), (2, 35)]) rfl ?_
      refine jput hF 13 12 0 12 rfl (by decide) (by decide) rfl wd_1475 (by decide +kernel) rfl (Or.inl rfl) (by exact hS.k35) (fun h => by cases h) ?_
      refine jblk hF [(.aload_n 0, 1), (.dup, 1)] (by decide +kernel) (pc' := 32) (lo' := [(0, (2, 35)), (1, (0, ch))]) (st' := [(2, 35), (2, 35)]) rfl ?_
      refine jget hF 13 14 0 14 rfl (by decide) (by decide) rfl wd_1477 (by decide +kernel) (by exact hS.k35) ?_
      rw [show (set2 m_6 35 12 ((m_6 35 12) + 1)) 35 14 = m_6 35 14 from (s2_k (by decide))]
      refine jblk hF [(.iconst 1, 1), (.isub, 1)] (by decide +kernel) (pc' := 37) (lo' := [(0, (2, 35)), (1, (0, ch))]) (st' := [(0, (m_6 35 14) - 1), (2, 35)]) rfl ?_
      refine jput hF 13 14 0 14 rfl (by decide) (by decide) rfl wd_1477 (by decide +kernel) rfl (Or.inl rfl) (by exact hS.k35) (fun h => by cases h) ?_
      refine jvret hF hr (by decide +kernel) ?_
      exact lMV ⟨(SR.s (SR.s hR_m_6 (Or.inr (by decide))) (Or.inr (by decide))), by (first
          | exact ⟨fun h => absurd h (by omega), fun _ => rfl⟩
          | (refine ⟨fun _ => ?_, fun h => absurd (by omega) h⟩; rw [show clsP (mem 39) (mem 35 11) ch (mem 35 12) [] = okP (skp (mem 39) (mem 35 11) (mem 35 12) + 1) [] from if_pos (by omega)]; exact (((hA.adv (chr_lt (mem 39) (by omega))).deepS).weak (by omega) (by omega)))
          | (refine ⟨fun _ => ?_, fun h => absurd (by omega) h⟩; rw [show clsP (mem 39) (mem 35 11) ch (mem 35 12) [] = erP (skp (mem 39) (mem 35 11) (mem 35 12)) from if_neg (by omega)]; rw [hbb]; exact ((((hA.bad (by omega) (by omega)).adve (by omega)).deepS).weak (by omega) (by omega)).er (by show skp (mem 39) (mem 35 11) (mem 35 12) ≠ -1; omega) rfl))⟩
set_option maxHeartbeats 4000000 in
set_option maxRecDepth 100000 in
theorem c_X12_number {l : Launch} {g : GP} (hG : GH g) {kd : Int → Nat} {ln : Int → Int} {mem : Int → Int → Int} {sz : Nat} (hS : SK kd ln) (hR : SR mem) (u : Nat) (hPT : PTX mem) (hPC : PC mem u) : MT l g yX12_number cX12_number 3 none 1 0 0 [(2, 35)] kd ln mem sz (pMV (fun mem' => SR mem' ∧ (PS mem mem' 0 0 0 (numP (mem 39) (mem 35 11) (skp (mem 39) (mem 35 11) (mem 35 12))))) kd ln sz) := by
  refine MT_of hG (by decide +kernel) (Nat.le_of_ble_eq_true rfl) (fun z hF hr hn => ?_)
  obtain ⟨pw, pa0, paL, pd, ps0, ps1, pu0, pu6⟩ := id hPC
  have hPT1 := hPT.2.1
  refine jblk hF [(.aload_n 0, 1)] (by decide +kernel) (pc' := 1) (lo' := [(0, (2, 35))]) (st' := [(2, 35)]) rfl ?_
  refine jcallV hF (c_X12_look hG hS hR (by first | exact hPT | assumption) (by omega)) MW_X12_look 13 (by decide) (by exact hS.k35) wd_1829 wd_1831 wd_p55 (by decide +kernel) [] rfl rfl (by decide) (Nat.le_of_ble_eq_true rfl) (by decide) (kMR (fun v_3 m_1 h_2 => ?_))
  obtain ⟨hR_m_1, h_2⟩ := h_2
  obtain ⟨hv, hl⟩ := h_2
  have hA := (PS.rf (u := 0) hPC).look (by omega) hl
  rw [bnd_ok] at hA
  have hsk := skp_f (mem 39) (mem 35 11) (mem 35 12)
  have hskL := hsk.2.1 paL
  have l13 := hl.1 35 13 (by decide)
  have l15 := hl.1 35 15 (by decide)
  have l12 := hl.2
  have hcb : -1 ≤ v_3 ∧ v_3 ≤ 255 := by rw [hv]; unfold chr; split; (have := hPT.2.2 _ (by omega : 0 ≤ skp (mem 39) (mem 35 11) (mem 35 12)) (by omega); omega); omega
  refine jcallS hF (c_X12_isDigit hG v_3 (by omega)) MW_X12_isDigit wd_1868 wd_1869 (by decide +kernel) [] rfl rfl (by decide) (Nat.le_of_ble_eq_true rfl) (by decide) (kB (fun h_4 => ?_) (fun h_4 => ?_))
  · refine jif_ne hF (off := 8) 15 (by decide +kernel) (by decide) (by decide) (fun _ => ?_) (fun h => absurd h (by decide))
    refine jblk hF [(.iconst 0, 1), (.istore_n 1, 1), (.iconst 0, 1), (.istore_n 2, 1)] (by decide +kernel) (pc' := 19) (lo' := [(2, (0, 0)), (1, (0, 0)), (0, (2, 35))]) (st' := []) rfl ?_
    have L_7 : ∀ (fu_8 : Nat) (v : Int) (n : Int) (m2 : Int → Int → Int), (SR m2) → (PS mem m2 0 (2 * n) 0 (okP (m2 35 12) [])) → (0 ≤ n ∧ n ≤ 4 ∧ m2 35 12 = skp (mem 39) (mem 35 11) (mem 35 12) + n) → (numL (mem 39) (mem 35 11) (4 - n).toNat (m2 35 12) v = numL (mem 39) (mem 35 11) 4 (skp (mem 39) (mem 35 11) (mem 35 12)) 0) →  (5 - n).toNat < fu_8 → J z g 3 0 0 (QM z g 0 0 (pMV (fun mem' => SR mem' ∧ (PS mem mem' 0 0 0 (numP (mem 39) (mem 35 11) (skp (mem 39) (mem 35 11) (mem 35 12))))) kd ln sz)) 19 [(0, (2, 35)), (1, (0, v)), (2, (0, n))] [] kd ln m2 sz := by
      intro fu_8
      induction fu_8 with
      | zero => intro v n m2 _ _ _ _ hm; omega
      | succ fu_8 ih_6 =>
        intro v n m2 hR_m2 hps hn hnu hm
        obtain ⟨t39, t11⟩ := hps.txt
        have t39j : ∀ j : Int, m2 39 j = mem 39 j := fun j => congrFun t39 j
        have hb2 : m2 35 12 < 160 → 0 ≤ m2 39 (m2 35 12) ∧ m2 39 (m2 35 12) ≤ 255 := fun h2 => by rw [t39j]; exact hPT.2.2 _ (by omega) h2
        have g13 : m2 35 13 = -1 := hps.w13
        have hfo := hps.2.2.1 rfl
        have g15 := hfo.2.2.2.2.1
        have g15b : m2 35 15 = mem 35 15 := by simpa [okP] using g15
        have hal : m2 35 12 ≤ mem 35 11 := hfo.2.2.1
        refine jblk hF [(.aload_n 0, 1)] (by decide +kernel) (pc' := 20) (lo' := [(0, (2, 35)), (1, (0, v)), (2, (0, n))]) (st' := [(2, 35)]) rfl ?_
        refine jget hF 13 12 0 12 rfl (by decide) (by decide) rfl wd_1475 (by decide +kernel) (by exact hS.k35) ?_
        refine jblk hF [(.aload_n 0, 1)] (by decide +kernel) (pc' := 24) (lo' := [(0, (2, 35)), (1, (0, v)), (2, (0, n))]) (st' := [(2, 35), (0, m2 35 12)]) rfl ?_
        refine jget hF 13 11 0 11 rfl (by decide) (by decide) rfl wd_1474 (by decide +kernel) (by exact hS.k35) ?_
        refine jicmp_ge hF (off := 62) 89 (by decide +kernel) (by decide) (by omega) (by omega) (fun h_9 => ?_) (fun h_9 => ?_)
        · have hn1 : 1 ≤ n := by
            by_cases q0 : n = 0
            · exfalso
              have hc0 : chr (mem 39) (mem 35 11) (skp (mem 39) (mem 35 11) (mem 35 12)) = (if m2 35 12 < mem 35 11 then m2 39 (m2 35 12) else -1) := by rw [show skp (mem 39) (mem 35 11) (mem 35 12) = m2 35 12 by omega, t39j]; rfl
              split at hc0 <;> omega
            · omega
          refine jblk hF [(.aload_n 0, 1), (.iconst 0, 1)] (by decide +kernel) (pc' := 91) (lo' := [(0, (2, 35)), (1, (0, v)), (2, (0, n))]) (st' := [(0, 0), (2, 35)]) rfl ?_
          refine jcallV hF (c_X12_say hG hS hR_m2 0 (by omega)) MW_X12_say 13 (by decide) (by exact hS.k35) wd_1840 wd_1842 wd_p57 (by decide +kernel) [] rfl rfl (by decide) (Nat.le_of_ble_eq_true rfl) (by decide) (kMV (fun m_10 h_11 => ?_))
          obtain ⟨hR_m_10, h_11⟩ := h_11
          have hS1 := (hps.weak (d' := 0 + 1 + 1) (Int.le_refl 0) (by omega)).say 0
          rw [← h_11] at hS1
          have g15 : m_10 35 15 = m2 35 15 + 1 := by rw [h_11, s2_s]
          refine jblk hF [(.aload_n 0, 1), (.iload_n 1, 1)] (by decide +kernel) (pc' := 96) (lo' := [(0, (2, 35)), (1, (0, v)), (2, (0, n))]) (st' := [(0, v), (2, 35)]) rfl ?_
          refine jcallV hF (c_X12_say hG hS hR_m_10 v (by omega)) MW_X12_say 13 (by decide) (by exact hS.k35) wd_1840 wd_1842 wd_p57 (by decide +kernel) [] rfl rfl (by decide) (Nat.le_of_ble_eq_true rfl) (by decide) (kMV (fun m_12 h_13 => ?_))
          obtain ⟨hR_m_12, h_13⟩ := h_13
          have hS2 := hS1.say v
          rw [← h_13] at hS2
          refine jvret hF hr (by decide +kernel) ?_
          exact lMV ⟨hR_m_12, by (rw [show numP (mem 39) (mem 35 11) (skp (mem 39) (mem 35 11) (mem 35 12)) = okP (m2 35 12) [0, v] from (if_pos (by omega)).trans (hnu.symm.trans (by
                have hno : ¬ (m2 35 12 < mem 35 11 ∧ isDg (mem 39 (m2 35 12))) := (by rw [← t39j]; omega)
                cases hk : (4 - n).toNat with
                | zero => rw [numL, if_neg hno]
                | succ k => rw [numL, if_neg hno]))]; exact hS2)⟩
        · refine jblk hF [(.aload_n 0, 1)] (by decide +kernel) (pc' := 31) (lo' := [(0, (2, 35)), (1, (0, v)), (2, (0, n))]) (st' := [(2, 35)]) rfl ?_
          refine jget hF 13 7 2 7 rfl (by decide) (by decide) rfl wd_1470 (by decide +kernel) (by exact hS.k35) ?_
          rw [SR.r7 hR_m2]
          refine jblk hF [(.aload_n 0, 1)] (by decide +kernel) (pc' := 35) (lo' := [(0, (2, 35)), (1, (0, v)), (2, (0, n))]) (st' := [(2, 35), (2, 39)]) rfl ?_
          refine jget hF 13 12 0 12 rfl (by decide) (by decide) rfl wd_1475 (by decide +kernel) (by exact hS.k35) ?_
          refine jiald hF (by decide +kernel) (by exact hS.k39) (by omega) (by have := hS.l39; omega) ?_
          refine jcallS hF (c_X12_isDigit hG (m2 39 (m2 35 12)) (by omega)) MW_X12_isDigit wd_1868 wd_1869 (by decide +kernel) [] rfl rfl (by decide) (Nat.le_of_ble_eq_true rfl) (by decide) (kB (fun h_14 => ?_) (fun h_14 => ?_))
          · refine jif_eq hF (off := 47) 89 (by decide +kernel) (by decide) (by decide) (fun h => absurd h (by decide)) (fun _ => ?_)
            refine jblk hF [(.iload_n 2, 1), (.iconst 4, 1)] (by decide +kernel) (pc' := 47) (lo' := [(0, (2, 35)), (1, (0, v)), (2, (0, n))]) (st' := [(0, 4), (0, n)]) rfl ?_
            refine jicmp_ne hF (off := 8) 55 (by decide +kernel) (by decide) (by omega) (by decide) (fun h_16 => ?_) (fun h_16 => ?_)
            · refine jblk hF [(.bipush 10, 2), (.iload_n 1, 1), (.imul, 1), (.aload_n 0, 1)] (by decide +kernel) (pc' := 60) (lo' := [(0, (2, 35)), (1, (0, v)), (2, (0, n))]) (st' := [(2, 35), (0, 10 * v)]) rfl ?_
              refine jget hF 13 7 2 7 rfl (by decide) (by decide) rfl wd_1470 (by decide +kernel) (by exact hS.k35) ?_
              rw [SR.r7 hR_m2]
              refine jblk hF [(.aload_n 0, 1)] (by decide +kernel) (pc' := 64) (lo' := [(0, (2, 35)), (1, (0, v)), (2, (0, n))]) (st' := [(2, 35), (2, 39), (0, 10 * v)]) rfl ?_
              refine jget hF 13 12 0 12 rfl (by decide) (by decide) rfl wd_1475 (by decide +kernel) (by exact hS.k35) ?_
              refine jiald hF (by decide +kernel) (by exact hS.k39) (by omega) (by have := hS.l39; omega) ?_
              refine jblk hF [(.iadd, 1), (.bipush 48, 2), (.isub, 1), (.istore_n 1, 1), (.iinc 2 1, 3), (.aload_n 0, 1), (.dup, 1)] (by decide +kernel) (pc' := 78) (lo' := [(2, (0, n + 1)), (1, (0, ((10 * v) + (m2 39 (m2 35 12))) - 48)), (0, (2, 35))]) (st' := [(2, 35), (2, 35)]) rfl ?_
              refine jget hF 13 12 0 12 rfl (by decide) (by decide) rfl wd_1475 (by decide +kernel) (by exact hS.k35) ?_
              refine jblk hF [(.iconst 1, 1), (.iadd, 1)] (by decide +kernel) (pc' := 83) (lo' := [(2, (0, n + 1)), (1, (0, ((10 * v) + (m2 39 (m2 35 12))) - 48)), (0, (2, 35))]) (st' := [(0, (m2 35 12) + 1), (2, 35)]) rfl ?_
              refine jput hF 13 12 0 12 rfl (by decide) (by decide) rfl wd_1475 (by decide +kernel) rfl (Or.inl rfl) (by exact hS.k35) (fun h => by cases h) ?_
              refine jgoto hF (off := (-67)) 19 (by decide +kernel) (by decide) ?_
              refine jsub [2, 1, 0] rfl ?_
              refine ih_6 (((10 * v) + (m2 39 (m2 35 12))) - 48) (n + 1) (set2 m2 35 12 ((m2 35 12) + 1)) ?_ ?_ ?_ ?_ ?_
              · exact (SR.s hR_m2 (Or.inr (by decide)))
              · rw [s2_s]; exact (hps.adv (by omega)).weak (by omega) (by omega)
              · rw [s2_s]; omega
              · rw [s2_s, ← hnu, show (4 - n).toNat = (4 - (n + 1)).toNat + 1 by omega, numL, if_pos (by rw [← t39j]; omega), ← t39j, show 10 * v + m2 39 (m2 35 12) - 48 = 10 * v + (m2 39 (m2 35 12) - 48) by omega]
              · omega
            · refine jblk hF [(.aload_n 0, 1)] (by decide +kernel) (pc' := 51) (lo' := [(0, (2, 35)), (1, (0, v)), (2, (0, n))]) (st' := [(2, 35)]) rfl ?_
              refine jcallV hF (c_X12_bad hG hS hR_m2 (by omega)) MW_X12_bad 13 (by decide) (by exact hS.k35) wd_1836 wd_1838 wd_p56 (by decide +kernel) [] rfl rfl (by decide) (Nat.le_of_ble_eq_true rfl) (by decide) (kMV (fun m_17 h_18 => ?_))
              obtain ⟨hR_m_17, h_18⟩ := h_18
              have hbb := h_18.1 (by omega)
              refine jvret hF hr (by decide +kernel) ?_
              exact lMV ⟨hR_m_17, by (rw [show numP (mem 39) (mem 35 11) (skp (mem 39) (mem 35 11) (mem 35 12)) = erP (m2 35 12) from (if_pos (by omega)).trans (hnu.symm.trans (by rw [show (4 - n).toNat = 0 by omega, numL, if_pos (by rw [← t39j]; omega)])), hbb]; exact (hps.bad (by omega) (by omega)).weak (by omega) (by omega))⟩
          · refine jif_eq hF (off := 47) 89 (by decide +kernel) (by decide) (by decide) (fun _ => ?_) (fun h => absurd h (by decide))
            have hn1 : 1 ≤ n := by
              by_cases q0 : n = 0
              · exfalso
                have hc0 : chr (mem 39) (mem 35 11) (skp (mem 39) (mem 35 11) (mem 35 12)) = (if m2 35 12 < mem 35 11 then m2 39 (m2 35 12) else -1) := by rw [show skp (mem 39) (mem 35 11) (mem 35 12) = m2 35 12 by omega, t39j]; rfl
                split at hc0 <;> omega
              · omega
            refine jblk hF [(.aload_n 0, 1), (.iconst 0, 1)] (by decide +kernel) (pc' := 91) (lo' := [(0, (2, 35)), (1, (0, v)), (2, (0, n))]) (st' := [(0, 0), (2, 35)]) rfl ?_
            refine jcallV hF (c_X12_say hG hS hR_m2 0 (by omega)) MW_X12_say 13 (by decide) (by exact hS.k35) wd_1840 wd_1842 wd_p57 (by decide +kernel) [] rfl rfl (by decide) (Nat.le_of_ble_eq_true rfl) (by decide) (kMV (fun m_20 h_21 => ?_))
            obtain ⟨hR_m_20, h_21⟩ := h_21
            have hS1 := (hps.weak (d' := 0 + 1 + 1) (Int.le_refl 0) (by omega)).say 0
            rw [← h_21] at hS1
            have g15 : m_20 35 15 = m2 35 15 + 1 := by rw [h_21, s2_s]
            refine jblk hF [(.aload_n 0, 1), (.iload_n 1, 1)] (by decide +kernel) (pc' := 96) (lo' := [(0, (2, 35)), (1, (0, v)), (2, (0, n))]) (st' := [(0, v), (2, 35)]) rfl ?_
            refine jcallV hF (c_X12_say hG hS hR_m_20 v (by omega)) MW_X12_say 13 (by decide) (by exact hS.k35) wd_1840 wd_1842 wd_p57 (by decide +kernel) [] rfl rfl (by decide) (Nat.le_of_ble_eq_true rfl) (by decide) (kMV (fun m_22 h_23 => ?_))
            obtain ⟨hR_m_22, h_23⟩ := h_23
            have hS2 := hS1.say v
            rw [← h_23] at hS2
            refine jvret hF hr (by decide +kernel) ?_
            exact lMV ⟨hR_m_22, by (rw [show numP (mem 39) (mem 35 11) (skp (mem 39) (mem 35 11) (mem 35 12)) = okP (m2 35 12) [0, v] from (if_pos (by omega)).trans (hnu.symm.trans (by
                  have hno : ¬ (m2 35 12 < mem 35 11 ∧ isDg (mem 39 (m2 35 12))) := (by rw [← t39j]; omega)
                  cases hk : (4 - n).toNat with
                  | zero => rw [numL, if_neg hno]
                  | succ k => rw [numL, if_neg hno]))]; exact hS2)⟩
    refine jsub [2, 1, 0] rfl ?_
    refine L_7 _ 0 0 m_1 ?_ ?_ ?_ ?_ (Nat.lt_succ_self _)
    · exact hR_m_1
    · rw [l12]; exact hA
    · omega
    · rw [l12]; rfl
  · refine jif_ne hF (off := 8) 15 (by decide +kernel) (by decide) (by decide) (fun h => absurd h (by decide)) (fun _ => ?_)
    refine jblk hF [(.aload_n 0, 1)] (by decide +kernel) (pc' := 11) (lo' := [(0, (2, 35))]) (st' := [(2, 35)]) rfl ?_
    refine jcallV hF (c_X12_bad hG hS hR_m_1 (by omega)) MW_X12_bad 13 (by decide) (by exact hS.k35) wd_1836 wd_1838 wd_p56 (by decide +kernel) [] rfl rfl (by decide) (Nat.le_of_ble_eq_true rfl) (by decide) (kMV (fun m_25 h_26 => ?_))
    obtain ⟨hR_m_25, h_26⟩ := h_26
    have hbb := h_26.1 (by omega)
    refine jvret hF hr (by decide +kernel) ?_
    exact lMV ⟨hR_m_25, by (rw [show numP (mem 39) (mem 35 11) (skp (mem 39) (mem 35 11) (mem 35 12)) = erP (skp (mem 39) (mem 35 11) (mem 35 12)) from if_neg (by omega), hbb]; exact hA.bad (by omega) (by omega))⟩
set_option maxHeartbeats 4000000 in
set_option maxRecDepth 100000 in
theorem c_X12_atomO {l : Launch} {g : GP} (hG : GH g) {kd : Int → Nat} {ln : Int → Int} {mem : Int → Int → Int} {sz : Nat} (hS : SK kd ln) (hR : SR mem) (u : Nat) (hPT : PTX mem) (hPC : PC mem u) (hsum : ∀ (v : Nat) (mem : Int → Int → Int), u = v + 1 → SR mem → PTX mem → PC mem v → MT l g yX12_sum cX12_sum 2 none (3 * v + 4) 0 0 [(2, 35)] kd ln mem sz (pMV (fun mem' => SR mem' ∧ (PS mem mem' v 0 0 (sumP (mem 39) (mem 35 11) v (mem 35 12)))) kd ln sz)) : MT l g yX12_atom cX12_atom 2 none (3 * u + 2) 0 0 [(2, 35)] kd ln mem sz (pMV (fun mem' => SR mem' ∧ (PS mem mem' u 0 0 (atomP (mem 39) (mem 35 11) u (mem 35 12)))) kd ln sz) := by
  refine MT_of hG (by decide +kernel) (Nat.le_of_ble_eq_true rfl) (fun z hF hr hn => ?_)
  obtain ⟨pw, pa0, paL, pd, ps0, ps1, pu0, pu6⟩ := id hPC
  have hPT1 := hPT.2.1
  refine jblk hF [(.aload_n 0, 1)] (by decide +kernel) (pc' := 1) (lo' := [(0, (2, 35))]) (st' := [(2, 35)]) rfl ?_
  refine jcallV hF (c_X12_look hG hS hR (by first | exact hPT | assumption) (by omega)) MW_X12_look 13 (by decide) (by exact hS.k35) wd_1829 wd_1831 wd_p55 (by decide +kernel) [] rfl rfl (rmI (by omega) (by decide)) (Nat.le_of_ble_eq_true rfl) ⟨Nat.le_of_ble_eq_true rfl, Nat.le_of_ble_eq_true rfl⟩ (kMR (fun v_3 m_1 h_2 => ?_))
  obtain ⟨hR_m_1, h_2⟩ := h_2
  obtain ⟨hv, hl⟩ := h_2
  have hA := (PS.rf (u := 0) hPC).look (by omega) hl
  rw [bnd_ok] at hA
  have hsk := skp_f (mem 39) (mem 35 11) (mem 35 12)
  have hskL := hsk.2.1 paL
  have l13 := hl.1 35 13 (by decide)
  have l14 := hl.1 35 14 (by decide)
  have l15 := hl.1 35 15 (by decide)
  have l12 := hl.2
  have hcb : -1 ≤ v_3 ∧ v_3 ≤ 255 := by rw [hv]; unfold chr; split; (have := hPT.2.2 _ (by omega : 0 ≤ skp (mem 39) (mem 35 11) (mem 35 12)) (by omega); omega); omega
  have hat : atomP (mem 39) (mem 35 11) u (mem 35 12) = atomW (mem 39) (mem 35 11) (innP (mem 39) (mem 35 11) u) (mem 35 12) := rfl
  refine jblk hF [(.istore_n 1, 1), (.iload_n 1, 1), (.bipush 91, 2)] (by decide +kernel) (pc' := 8) (lo' := [(1, (0, v_3)), (0, (2, 35))]) (st' := [(0, 91), (0, v_3)]) rfl ?_
  refine jicmp_ne hF (off := 23) 31 (by decide +kernel) (by decide) (by omega) (by decide) (fun h_4 => ?_) (fun h_4 => ?_)
  · refine jblk hF [(.iload_n 1, 1), (.bipush 110, 2)] (by decide +kernel) (pc' := 34) (lo' := [(1, (0, v_3)), (0, (2, 35))]) (st' := [(0, 110), (0, v_3)]) rfl ?_
    refine jicmp_eq hF (off := 15) 49 (by decide +kernel) (by decide) (by omega) (by decide) (fun h_5 => ?_) (fun h_5 => ?_)
    · refine jblk hF [(.aload_n 0, 1), (.dup, 1)] (by decide +kernel) (pc' := 51) (lo' := [(1, (0, v_3)), (0, (2, 35))]) (st' := [(2, 35), (2, 35)]) rfl ?_
      refine jget hF 13 12 0 12 rfl (by decide) (by decide) rfl wd_1475 (by decide +kernel) (by exact hS.k35) ?_
      refine jblk hF [(.iconst 1, 1), (.iadd, 1)] (by decide +kernel) (pc' := 56) (lo' := [(1, (0, v_3)), (0, (2, 35))]) (st' := [(0, (m_1 35 12) + 1), (2, 35)]) rfl ?_
      refine jput hF 13 12 0 12 rfl (by decide) (by decide) rfl wd_1475 (by decide +kernel) rfl (Or.inl rfl) (by exact hS.k35) (fun h => by cases h) ?_
      have hV := hA.adv (chr_lt (mem 39) (by omega))
      have g59 : (set2 m_1 35 12 ((m_1 35 12) + 1)) 35 15 = mem 35 15 := (s2_k (by decide)).trans l15
      refine jblk hF [(.aload_n 0, 1), (.iconst 1, 1)] (by decide +kernel) (pc' := 61) (lo' := [(1, (0, v_3)), (0, (2, 35))]) (st' := [(0, 1), (2, 35)]) rfl ?_
      refine jcallV hF (c_X12_say hG hS (SR.s hR_m_1 (Or.inr (by decide))) 1 (by omega)) MW_X12_say 13 (by decide) (by exact hS.k35) wd_1840 wd_1842 wd_p57 (by decide +kernel) [] rfl rfl (rmI (by omega) (by decide)) (Nat.le_of_ble_eq_true rfl) ⟨Nat.le_of_ble_eq_true rfl, Nat.le_of_ble_eq_true rfl⟩ (kMV (fun m_6 h_7 => ?_))
      obtain ⟨hR_m_6, h_7⟩ := h_7
      have hS1 := (hV.weak (u' := u) (d' := 0 + 1 + 1) (by omega) (by omega)).say 1
      rw [← h_7] at hS1
      have g15 : m_6 35 15 = mem 35 15 + 1 := by rw [h_7, s2_s]; omega
      refine jblk hF [(.aload_n 0, 1), (.iload_n 1, 1)] (by decide +kernel) (pc' := 66) (lo' := [(1, (0, v_3)), (0, (2, 35))]) (st' := [(0, v_3), (2, 35)]) rfl ?_
      refine jcallV hF (c_X12_say hG hS hR_m_6 v_3 (by omega)) MW_X12_say 13 (by decide) (by exact hS.k35) wd_1840 wd_1842 wd_p57 (by decide +kernel) [] rfl rfl (rmI (by omega) (by decide)) (Nat.le_of_ble_eq_true rfl) ⟨Nat.le_of_ble_eq_true rfl, Nat.le_of_ble_eq_true rfl⟩ (kMV (fun m_8 h_9 => ?_))
      obtain ⟨hR_m_8, h_9⟩ := h_9
      have hS2 := hS1.say v_3
      rw [← h_9] at hS2
      refine jgoto hF (off := 7) 76 (by decide +kernel) (by decide) ?_
      refine jvret hF hr (by decide +kernel) ?_
      exact lMV ⟨hR_m_8, by first
          | (rw [hat]; unfold atomW; rw [if_pos (by omega)]; cases u with
             | zero => exact absurd rfl hu
             | succ u => exact hC.weak (by omega) (by omega))
          | (have hu : u = 0 := (by have := hop.1; by_cases q : u = 0; exact q; exact (this.mpr (by omega)).elim); rw [hat]; unfold atomW; rw [if_pos (by omega), hu, hop.2.2 (by omega) (by omega)]; refine (hA.bad (by omega) (by omega)).er (show (skp (mem 39) (mem 35 11) (mem 35 12)) ≠ -1 by omega) ?_; rw [show innP (mem 39) (mem 35 11) 0 ((skp (mem 39) (mem 35 11) (mem 35 12)) + 1) = erP (skp (mem 39) (mem 35 11) (mem 35 12)) from congrArg erP (by omega), bnd_er (by omega)])
          | (rw [hat]; unfold atomW; rw [if_neg (by omega), if_pos (by omega), ← hv]; exact hS2)
          | (rw [hat]; unfold atomW; rw [if_neg (by omega), if_neg (by omega)]; exact hNo.weak (by omega) (by omega))⟩
    · refine jblk hF [(.iload_n 1, 1), (.bipush 98, 2)] (by decide +kernel) (pc' := 40) (lo' := [(1, (0, v_3)), (0, (2, 35))]) (st' := [(0, 98), (0, v_3)]) rfl ?_
      refine jicmp_eq hF (off := 9) 49 (by decide +kernel) (by decide) (by omega) (by decide) (fun h_10 => ?_) (fun h_10 => ?_)
      · refine jblk hF [(.aload_n 0, 1), (.dup, 1)] (by decide +kernel) (pc' := 51) (lo' := [(1, (0, v_3)), (0, (2, 35))]) (st' := [(2, 35), (2, 35)]) rfl ?_
        refine jget hF 13 12 0 12 rfl (by decide) (by decide) rfl wd_1475 (by decide +kernel) (by exact hS.k35) ?_
        refine jblk hF [(.iconst 1, 1), (.iadd, 1)] (by decide +kernel) (pc' := 56) (lo' := [(1, (0, v_3)), (0, (2, 35))]) (st' := [(0, (m_1 35 12) + 1), (2, 35)]) rfl ?_
        refine jput hF 13 12 0 12 rfl (by decide) (by decide) rfl wd_1475 (by decide +kernel) rfl (Or.inl rfl) (by exact hS.k35) (fun h => by cases h) ?_
        have hV := hA.adv (chr_lt (mem 39) (by omega))
        have g59 : (set2 m_1 35 12 ((m_1 35 12) + 1)) 35 15 = mem 35 15 := (s2_k (by decide)).trans l15
        refine jblk hF [(.aload_n 0, 1), (.iconst 1, 1)] (by decide +kernel) (pc' := 61) (lo' := [(1, (0, v_3)), (0, (2, 35))]) (st' := [(0, 1), (2, 35)]) rfl ?_
        refine jcallV hF (c_X12_say hG hS (SR.s hR_m_1 (Or.inr (by decide))) 1 (by omega)) MW_X12_say 13 (by decide) (by exact hS.k35) wd_1840 wd_1842 wd_p57 (by decide +kernel) [] rfl rfl (rmI (by omega) (by decide)) (Nat.le_of_ble_eq_true rfl) ⟨Nat.le_of_ble_eq_true rfl, Nat.le_of_ble_eq_true rfl⟩ (kMV (fun m_11 h_12 => ?_))
        obtain ⟨hR_m_11, h_12⟩ := h_12
        have hS1 := (hV.weak (u' := u) (d' := 0 + 1 + 1) (by omega) (by omega)).say 1
        rw [← h_12] at hS1
        have g15 : m_11 35 15 = mem 35 15 + 1 := by rw [h_12, s2_s]; omega
        refine jblk hF [(.aload_n 0, 1), (.iload_n 1, 1)] (by decide +kernel) (pc' := 66) (lo' := [(1, (0, v_3)), (0, (2, 35))]) (st' := [(0, v_3), (2, 35)]) rfl ?_
        refine jcallV hF (c_X12_say hG hS hR_m_11 v_3 (by omega)) MW_X12_say 13 (by decide) (by exact hS.k35) wd_1840 wd_1842 wd_p57 (by decide +kernel) [] rfl rfl (rmI (by omega) (by decide)) (Nat.le_of_ble_eq_true rfl) ⟨Nat.le_of_ble_eq_true rfl, Nat.le_of_ble_eq_true rfl⟩ (kMV (fun m_13 h_14 => ?_))
        obtain ⟨hR_m_13, h_14⟩ := h_14
        have hS2 := hS1.say v_3
        rw [← h_14] at hS2
        refine jgoto hF (off := 7) 76 (by decide +kernel) (by decide) ?_
        refine jvret hF hr (by decide +kernel) ?_
        exact lMV ⟨hR_m_13, by first
            | (rw [hat]; unfold atomW; rw [if_pos (by omega)]; cases u with
               | zero => exact absurd rfl hu
               | succ u => exact hC.weak (by omega) (by omega))
            | (have hu : u = 0 := (by have := hop.1; by_cases q : u = 0; exact q; exact (this.mpr (by omega)).elim); rw [hat]; unfold atomW; rw [if_pos (by omega), hu, hop.2.2 (by omega) (by omega)]; refine (hA.bad (by omega) (by omega)).er (show (skp (mem 39) (mem 35 11) (mem 35 12)) ≠ -1 by omega) ?_; rw [show innP (mem 39) (mem 35 11) 0 ((skp (mem 39) (mem 35 11) (mem 35 12)) + 1) = erP (skp (mem 39) (mem 35 11) (mem 35 12)) from congrArg erP (by omega), bnd_er (by omega)])
            | (rw [hat]; unfold atomW; rw [if_neg (by omega), if_pos (by omega), ← hv]; exact hS2)
            | (rw [hat]; unfold atomW; rw [if_neg (by omega), if_neg (by omega)]; exact hNo.weak (by omega) (by omega))⟩
      · refine jblk hF [(.iload_n 1, 1), (.bipush 120, 2)] (by decide +kernel) (pc' := 46) (lo' := [(1, (0, v_3)), (0, (2, 35))]) (st' := [(0, 120), (0, v_3)]) rfl ?_
        refine jicmp_ne hF (off := 26) 72 (by decide +kernel) (by decide) (by omega) (by decide) (fun h_15 => ?_) (fun h_15 => ?_)
        · refine jblk hF [(.aload_n 0, 1)] (by decide +kernel) (pc' := 73) (lo' := [(1, (0, v_3)), (0, (2, 35))]) (st' := [(2, 35)]) rfl ?_
          refine jcallV hF (c_X12_number hG hS hR_m_1 (by exact u) (by exact hA.ptx hPT) (by exact hA.pc rfl hPC (by omega) (by omega) (by omega))) MW_X12_number 13 (by decide) (by exact hS.k35) wd_1864 wd_1866 wd_p63 (by decide +kernel) [] rfl rfl (rmI (by omega) (by decide)) (Nat.le_of_ble_eq_true rfl) ⟨Nat.le_of_ble_eq_true rfl, Nat.le_of_ble_eq_true rfl⟩ (kMV (fun m_16 h_17 => ?_))
          obtain ⟨hR_m_16, h_17⟩ := h_17
          have hN := hA.call rfl h_17
          obtain ⟨o39, o11⟩ := hA.txt
          rw [o39, o11, l12, skp_skp] at hN
          have hNo := hN.okp
          refine jvret hF hr (by decide +kernel) ?_
          exact lMV ⟨hR_m_16, by first
              | (rw [hat]; unfold atomW; rw [if_pos (by omega)]; cases u with
                 | zero => exact absurd rfl hu
                 | succ u => exact hC.weak (by omega) (by omega))
              | (have hu : u = 0 := (by have := hop.1; by_cases q : u = 0; exact q; exact (this.mpr (by omega)).elim); rw [hat]; unfold atomW; rw [if_pos (by omega), hu, hop.2.2 (by omega) (by omega)]; refine (hA.bad (by omega) (by omega)).er (show (skp (mem 39) (mem 35 11) (mem 35 12)) ≠ -1 by omega) ?_; rw [show innP (mem 39) (mem 35 11) 0 ((skp (mem 39) (mem 35 11) (mem 35 12)) + 1) = erP (skp (mem 39) (mem 35 11) (mem 35 12)) from congrArg erP (by omega), bnd_er (by omega)])
              | (rw [hat]; unfold atomW; rw [if_neg (by omega), if_pos (by omega), ← hv]; exact hS2)
              | (rw [hat]; unfold atomW; rw [if_neg (by omega), if_neg (by omega)]; exact hNo.weak (by omega) (by omega))⟩
        · refine jblk hF [(.aload_n 0, 1), (.dup, 1)] (by decide +kernel) (pc' := 51) (lo' := [(1, (0, v_3)), (0, (2, 35))]) (st' := [(2, 35), (2, 35)]) rfl ?_
          refine jget hF 13 12 0 12 rfl (by decide) (by decide) rfl wd_1475 (by decide +kernel) (by exact hS.k35) ?_
          refine jblk hF [(.iconst 1, 1), (.iadd, 1)] (by decide +kernel) (pc' := 56) (lo' := [(1, (0, v_3)), (0, (2, 35))]) (st' := [(0, (m_1 35 12) + 1), (2, 35)]) rfl ?_
          refine jput hF 13 12 0 12 rfl (by decide) (by decide) rfl wd_1475 (by decide +kernel) rfl (Or.inl rfl) (by exact hS.k35) (fun h => by cases h) ?_
          have hV := hA.adv (chr_lt (mem 39) (by omega))
          have g59 : (set2 m_1 35 12 ((m_1 35 12) + 1)) 35 15 = mem 35 15 := (s2_k (by decide)).trans l15
          refine jblk hF [(.aload_n 0, 1), (.iconst 1, 1)] (by decide +kernel) (pc' := 61) (lo' := [(1, (0, v_3)), (0, (2, 35))]) (st' := [(0, 1), (2, 35)]) rfl ?_
          refine jcallV hF (c_X12_say hG hS (SR.s hR_m_1 (Or.inr (by decide))) 1 (by omega)) MW_X12_say 13 (by decide) (by exact hS.k35) wd_1840 wd_1842 wd_p57 (by decide +kernel) [] rfl rfl (rmI (by omega) (by decide)) (Nat.le_of_ble_eq_true rfl) ⟨Nat.le_of_ble_eq_true rfl, Nat.le_of_ble_eq_true rfl⟩ (kMV (fun m_18 h_19 => ?_))
          obtain ⟨hR_m_18, h_19⟩ := h_19
          have hS1 := (hV.weak (u' := u) (d' := 0 + 1 + 1) (by omega) (by omega)).say 1
          rw [← h_19] at hS1
          have g15 : m_18 35 15 = mem 35 15 + 1 := by rw [h_19, s2_s]; omega
          refine jblk hF [(.aload_n 0, 1), (.iload_n 1, 1)] (by decide +kernel) (pc' := 66) (lo' := [(1, (0, v_3)), (0, (2, 35))]) (st' := [(0, v_3), (2, 35)]) rfl ?_
          refine jcallV hF (c_X12_say hG hS hR_m_18 v_3 (by omega)) MW_X12_say 13 (by decide) (by exact hS.k35) wd_1840 wd_1842 wd_p57 (by decide +kernel) [] rfl rfl (rmI (by omega) (by decide)) (Nat.le_of_ble_eq_true rfl) ⟨Nat.le_of_ble_eq_true rfl, Nat.le_of_ble_eq_true rfl⟩ (kMV (fun m_20 h_21 => ?_))
          obtain ⟨hR_m_20, h_21⟩ := h_21
          have hS2 := hS1.say v_3
          rw [← h_21] at hS2
          refine jgoto hF (off := 7) 76 (by decide +kernel) (by decide) ?_
          refine jvret hF hr (by decide +kernel) ?_
          exact lMV ⟨hR_m_20, by first
              | (rw [hat]; unfold atomW; rw [if_pos (by omega)]; cases u with
                 | zero => exact absurd rfl hu
                 | succ u => exact hC.weak (by omega) (by omega))
              | (have hu : u = 0 := (by have := hop.1; by_cases q : u = 0; exact q; exact (this.mpr (by omega)).elim); rw [hat]; unfold atomW; rw [if_pos (by omega), hu, hop.2.2 (by omega) (by omega)]; refine (hA.bad (by omega) (by omega)).er (show (skp (mem 39) (mem 35 11) (mem 35 12)) ≠ -1 by omega) ?_; rw [show innP (mem 39) (mem 35 11) 0 ((skp (mem 39) (mem 35 11) (mem 35 12)) + 1) = erP (skp (mem 39) (mem 35 11) (mem 35 12)) from congrArg erP (by omega), bnd_er (by omega)])
              | (rw [hat]; unfold atomW; rw [if_neg (by omega), if_pos (by omega), ← hv]; exact hS2)
              | (rw [hat]; unfold atomW; rw [if_neg (by omega), if_neg (by omega)]; exact hNo.weak (by omega) (by omega))⟩
  · refine jblk hF [(.aload_n 0, 1)] (by decide +kernel) (pc' := 12) (lo' := [(1, (0, v_3)), (0, (2, 35))]) (st' := [(2, 35)]) rfl ?_
    refine jcallV hF (c_X12_opens hG hS hR_m_1 (by omega) (by omega)) MW_X12_opens 13 (by decide) (by exact hS.k35) wd_1856 wd_1858 wd_p61 (by decide +kernel) [] rfl rfl (rmI (by omega) (by decide)) (Nat.le_of_ble_eq_true rfl) ⟨Nat.le_of_ble_eq_true rfl, Nat.le_of_ble_eq_true rfl⟩ (kMB (fun m_22 h_23 => ?_) (fun m_22 h_23 => ?_))
    · obtain ⟨hR_m_22, h_23⟩ := h_23
      have hop := h_23
      refine jif_eq hF (off := 61) 76 (by decide +kernel) (by decide) (by decide) (fun h => absurd h (by decide)) (fun _ => ?_)
      have hu : u ≠ 0 := fun q => by have := hop.1.mp trivial; omega
      have hO := (hA.opn (u := 0) (chr_lt (mem 39) (by omega)))
      rw [← hop.2.1 (hop.1.mp trivial)] at hO
      have hOc : PC m_22 ((u - 1 : Nat) : Int) := hO.pc rfl hPC (by omega) (by omega) (by omega)
      obtain ⟨o39, o11⟩ := hO.txt
      have o12 : m_22 35 12 = skp (mem 39) (mem 35 11) (mem 35 12) + 1 := (hO.2.2.1 rfl).2.1
      refine jblk hF [(.aload_n 0, 1)] (by decide +kernel) (pc' := 19) (lo' := [(1, (0, v_3)), (0, (2, 35))]) (st' := [(2, 35)]) rfl ?_
      refine jcallV hF (hsum (u - 1) _ (by omega) hR_m_22 (by exact hO.ptx hPT) (by exact hOc)) MW_X12_sum 13 (by decide) (by exact hS.k35) wd_1844 wd_1846 wd_p58 (by decide +kernel) [] rfl rfl (rmI (by omega) (by decide)) (Nat.le_of_ble_eq_true rfl) ⟨Nat.le_of_ble_eq_true rfl, Nat.le_of_ble_eq_true rfl⟩ (kMV (fun m_25 h_26 => ?_))
      obtain ⟨hR_m_25, h_26⟩ := h_26
      have hSm := hO.call rfl h_26
      rw [o39, o11, o12] at hSm
      have hSo := hSm.okp
      have hgd := (sumP_gd (mem 39) (mem 35 11) (u - 1) (skp (mem 39) (mem 35 11) (mem 35 12) + 1) (by omega) (by have := chr_lt (L := mem 35 11) (a := skp (mem 39) (mem 35 11) (mem 35 12)) (mem 39) (by omega); omega))
      have hSb := hSo.bds hPT hPC (by omega) (by omega) (hgd.b200 (by omega) (by omega))
      have hSp : m_25 35 13 = -1 → PC m_25 ((u - 1 : Nat) : Int) := fun q => hSo.pc (by rw [← hSo.w13]; exact q) hPC (by omega) (by omega) (by omega)
      refine jblk hF [(.aload_n 0, 1), (.bipush 93, 2)] (by decide +kernel) (pc' := 25) (lo' := [(1, (0, v_3)), (0, (2, 35))]) (st' := [(0, 93), (2, 35)]) rfl ?_
      refine jcallV hF (c_X12_closes hG hS hR_m_25 93 (by exact ((u - 1 : Nat) : Int)) (by decide) (by exact hSo.ptx hPT) (by omega) (by omega) (by exact hSp)) MW_X12_closes 13 (by decide) (by exact hS.k35) wd_1860 wd_1862 wd_p62 (by decide +kernel) [] rfl rfl (rmI (by omega) (by decide)) (Nat.le_of_ble_eq_true rfl) ⟨Nat.le_of_ble_eq_true rfl, Nat.le_of_ble_eq_true rfl⟩ (kMV (fun m_27 h_28 => ?_))
      obtain ⟨hR_m_27, h_28⟩ := h_28
      have hC := hSo.cls (ch := 93) pa0 (by omega) (by omega) (fun q => h_28.1 q) (fun q => h_28.2 q)
      refine jgoto hF (off := 48) 76 (by decide +kernel) (by decide) ?_
      refine jvret hF hr (by decide +kernel) ?_
      exact lMV ⟨hR_m_27, by first
          | (rw [hat]; unfold atomW; rw [if_pos (by omega)]; cases u with
             | zero => exact absurd rfl hu
             | succ u => exact hC.weak (by omega) (by omega))
          | (have hu : u = 0 := (by have := hop.1; by_cases q : u = 0; exact q; exact (this.mpr (by omega)).elim); rw [hat]; unfold atomW; rw [if_pos (by omega), hu, hop.2.2 (by omega) (by omega)]; refine (hA.bad (by omega) (by omega)).er (show (skp (mem 39) (mem 35 11) (mem 35 12)) ≠ -1 by omega) ?_; rw [show innP (mem 39) (mem 35 11) 0 ((skp (mem 39) (mem 35 11) (mem 35 12)) + 1) = erP (skp (mem 39) (mem 35 11) (mem 35 12)) from congrArg erP (by omega), bnd_er (by omega)])
          | (rw [hat]; unfold atomW; rw [if_neg (by omega), if_pos (by omega), ← hv]; exact hS2)
          | (rw [hat]; unfold atomW; rw [if_neg (by omega), if_neg (by omega)]; exact hNo.weak (by omega) (by omega))⟩
    · obtain ⟨hR_m_22, h_23⟩ := h_23
      have hop := h_23
      refine jif_eq hF (off := 61) 76 (by decide +kernel) (by decide) (by decide) (fun _ => ?_) (fun h => absurd h (by decide))
      refine jvret hF hr (by decide +kernel) ?_
      exact lMV ⟨hR_m_22, by first
          | (rw [hat]; unfold atomW; rw [if_pos (by omega)]; cases u with
             | zero => exact absurd rfl hu
             | succ u => exact hC.weak (by omega) (by omega))
          | (have hu : u = 0 := (by have := hop.1; by_cases q : u = 0; exact q; exact (this.mpr (by omega)).elim); rw [hat]; unfold atomW; rw [if_pos (by omega), hu, hop.2.2 (by omega) (by omega)]; refine (hA.bad (by omega) (by omega)).er (show (skp (mem 39) (mem 35 11) (mem 35 12)) ≠ -1 by omega) ?_; rw [show innP (mem 39) (mem 35 11) 0 ((skp (mem 39) (mem 35 11) (mem 35 12)) + 1) = erP (skp (mem 39) (mem 35 11) (mem 35 12)) from congrArg erP (by omega), bnd_er (by omega)])
          | (rw [hat]; unfold atomW; rw [if_neg (by omega), if_pos (by omega), ← hv]; exact hS2)
          | (rw [hat]; unfold atomW; rw [if_neg (by omega), if_neg (by omega)]; exact hNo.weak (by omega) (by omega))⟩
end
