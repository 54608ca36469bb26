section
section
variable {kd kd' kd1 kd2 : Int → Nat} {ln ln' ln1 ln2 : Int → Int} {mem mm M M' mem1 mem2 : Int → Int → Int} {sz sz' sz1 sz2 : Nat} {tg tg' : Int → Int} {L N N' e a P : Int} {c : Nat} {O O' : Int → Int → Prop}
theorem LSG.fr2 (h : LSG kd ln mem sz tg L N c O) (hE : EXT kd ln sz kd' ln' sz') (ht : TGX sz tg tg') (h1 : mm L = mem L) (h2 : mm (mem L 1) = mem (mem L 1)) (hL : 3 ≤ L ∧ L < sz) (hN : N' = N) (hO : ∀ i : Int, 0 ≤ i → i < N → OWN sz tg (mem (mem L 1) i) (L * 10000 + 100 * (i + 1)) → O i (mem (mem L 1) i) → O' i (mem (mem L 1) i)) : LSG kd' ln' mm sz' tg' L N' c O' := by
  subst hN
  obtain ⟨⟨l1, l2, l3, l4, l5, l6, l7, l8, l9, l10, l11, l12⟩, g2, g3, g4⟩ := h
  have e0 := hE.2 L (by omega)
  have e1 := hE.2 (mem L 1) l5
  have ez := hE.1
  refine ⟨?_, ?_, ?_, ?_⟩
  · unfold LSO
    rw [h1, e0.1, e1.1, e1.2]
    exact ⟨l1, l2, by omega, l4, by omega, l6, l7, l8, l9, l10, l11, by omega⟩
  · rw [h1]
    exact g2.imp id (fun q => q.fr hE ht)
  · rw [h1]; exact g3
  · intro i q1 q2
    obtain ⟨x1, x2, x3⟩ := g4 i q1 q2
    rw [h1, h2]
    exact ⟨(hE.2 _ x2.2.1).1.trans x1, x2.fr hE ht, hO i q1 q2 x2 x3⟩
/-- a page's object when its plate's rows, its slips' row are told anew -/
theorem O29.mk3 (h : O29 kd ln mem sz tg M P a) (hE : EXT kd ln sz kd' ln' sz') (ht : TGX sz tg tg') (ha : ∀ j : Int, j ≠ 17 → mm a j = mem a j) (hrow : ∀ k : Int, 9 ≤ k → k ≤ 15 → mm (mem a k) = mem (mem a k)) (g1 : ∀ k : Int, 45 ≤ k → k ≤ 53 → M' k P = M k P) (g2 : ∀ k : Int, 36 ≤ k → k ≤ 38 → M' k (M 45 P) = M k (M 45 P)) (g3 : ∀ k n : Int, 54 ≤ k → k ≤ 58 → 0 ≤ n → n < M 47 P → M' k (40 * P + n) = M k (40 * P + n)) (hs : ∀ n : Int, 0 ≤ n → n < M 47 P → mm (mem a 16) n = slB M' P n (M' 35 45).toNat) (hT : PGT kd' ln' mm sz' tg' M' P a) (hP : PGP mm M' P a) : O29 kd' ln' mm sz' tg' M' P a := by
  obtain ⟨h1, h2, h3, h4, h5⟩ := h
  obtain ⟨n1, n2, n3⟩ := PGE.nums g1 g2
  have e47 := g1 47 (by decide) (by decide)
  refine ⟨?_, ?_, ?_, hT, hP⟩
  · unfold PGN
    rw [ha 0 (by decide), ha 1 (by decide), ha 2 (by decide), ha 3 (by decide), ha 4 (by decide), ha 5 (by decide), ha 6 (by decide), ha 7 (by decide), ha 8 (by decide), g1 45 (by decide) (by decide), g1 46 (by decide) (by decide), g1 47 (by decide) (by decide), g1 48 (by decide) (by decide), g1 49 (by decide) (by decide), g1 50 (by decide) (by decide), g1 51 (by decide) (by decide), g1 52 (by decide) (by decide), g1 53 (by decide) (by decide)]
    exact h1
  · intro k q1 q2 q3
    rw [ha k q3]
    exact (h2 k q1 q2 q3).fr hE ht
  · intro n q1 q2
    rw [e47] at q2
    rw [ha 9 (by decide), ha 10 (by decide), ha 11 (by decide), ha 12 (by decide), ha 13 (by decide), ha 14 (by decide), ha 15 (by decide), ha 16 (by decide), hrow 9 (by decide) (by decide), hrow 10 (by decide) (by decide), hrow 11 (by decide) (by decide), hrow 12 (by decide) (by decide), hrow 13 (by decide) (by decide), hrow 14 (by decide) (by decide), hrow 15 (by decide) (by decide), g3 54 n (by decide) (by decide) q1 q2, g3 55 n (by decide) (by decide) q1 q2, g3 56 n (by decide) (by decide) q1 q2, g3 57 n (by decide) (by decide) q1 q2, g3 58 n (by decide) (by decide) q1 q2, n1, n2, n3, hs n q1 q2]
    obtain ⟨f1, f2, f3, f4, f5, f6, f7, f8, f9, f10⟩ := h3 n q1 q2
    exact ⟨f1, f2, f3, f4, f5, f6, f7, f8, rfl, f10⟩
theorem PGT.fr (h : PGT kd ln mem sz tg M P a) (hE : EXT kd ln sz kd' ln' sz') (ht : TGX sz tg tg') (ha : mm a 17 = mem a 17) (hr : 101 ≤ mem a 17 → mm (mem a 17) = mem (mem a 17)) (e1 : M' 82 P = M 82 P) (e2 : M' 47 P = M 47 P) (e3 : ∀ n : Int, 0 ≤ n → n < M 47 P → M' 83 (40 * P + n) = M 83 (40 * P + n)) : PGT kd' ln' mm sz' tg' M' P a := by
  unfold PGT
  rw [ha, e1]
  rcases h with q | ⟨q1, q2, q3, q4⟩
  · exact Or.inl q
  · rw [hr q1.2.2.1, e2]
    exact Or.inr ⟨q1.fr hE ht, q2, fun n w1 w2 => by rw [e3 n w1 w2]; exact q3 n w1 w2, q4⟩
theorem PGP.fr (h : PGP mem M P a) (ha : mm a 18 = mem a 18) (hr : mm (mem a 18) = mem (mem a 18)) (e : ∀ n j : Int, 0 ≤ n → n < 40 → 0 ≤ j → j ≤ 12 → pvN M' P n j (M' 35 72).toNat = pvN M P n j (M 35 72).toNat) : PGP mm M' P a := fun n q1 q2 => by
  rw [ha, hr]
  exact ⟨(h n q1 q2).1, fun j w1 w2 => by rw [e n j q1 q2 w1 w2]; exact (h n q1 q2).2 j w1 w2⟩
/-- one slip more -/
theorem slB_slip {p n c am P k : Int} (hN : 0 ≤ mem 35 45) : slB (slipM mem p n c am) P k (mem 35 45 + 1).toNat = (if P = p ∧ k = n then 1 else slB mem P k (mem 35 45).toNat) := by
  rw [slB_s hN, slB_cg (M := mem) (M' := slipM mem p n c am) _ (fun s q1 q2 => ⟨?_, ?_⟩)]
  · have e1 : slipM mem p n c am 63 (mem 35 45) = p := by unfold slipM; rw [s2_a (by decide), s2_a (by decide), s2_a (by decide), s2_a (by decide), s2_a (by decide), s2_a (by decide), s2_s]
    have e2 : slipM mem p n c am 64 (mem 35 45) = n := by unfold slipM; rw [s2_a (by decide), s2_a (by decide), s2_a (by decide), s2_a (by decide), s2_a (by decide), s2_s]
    rw [e1, e2]
    have hb := slB_bd mem P k (mem 35 45).toNat
    by_cases w : P = p ∧ k = n
    · rw [if_pos w, if_pos (Or.inr ⟨w.1.symm, w.2.symm⟩)]
    · rw [if_neg w]
      by_cases u : slB mem P k (mem 35 45).toNat = 0
      · rw [if_neg (fun x => x.elim (fun y => y u) (fun y => w ⟨y.1.symm, y.2.symm⟩)), u]
      · rw [if_pos (Or.inl u)]; omega
  · unfold slipM; rw [s2_a (by decide), s2_a (by decide), s2_a (by decide), s2_a (by decide), s2_a (by decide), s2_a (by decide), s2_k (by omega)]
  · unfold slipM; rw [s2_a (by decide), s2_a (by decide), s2_a (by decide), s2_a (by decide), s2_a (by decide), s2_k (by omega), s2_a (by decide)]
theorem slipM_o {p n c am x j : Int} (h : ¬ (63 ≤ x ∧ x ≤ 68 ∧ j = mem 35 45) ∧ ¬ (x = 35 ∧ j = 45)) : slipM mem p n c am x j = mem x j := by
  unfold slipM set2
  rw [if_neg (by omega), if_neg (by omega), if_neg (by omega), if_neg (by omega), if_neg (by omega), if_neg (by omega), if_neg (by omega)]
set_option maxHeartbeats 4000000 in
theorem GRX.slip {p n c am v : Int} (hI : INV kd ln mem sz tg) (hc : slipC mem p n c am) (hv : PAGV kd ln mem sz tg p v) (hE1 : EXT kd ln sz kd1 ln1 sz1) (hf1 : ∀ b j : Int, b < sz → mem1 b j = mem b j) (he : e = sz) (hs1 : sz1 = sz + 1) (hke : kd1 e = 10) (hfl : mem1 e 0 = p ∧ mem1 e 1 = n ∧ mem1 e 2 = c ∧ mem1 e 3 = am ∧ mem1 e 4 = mem 35 0 ∧ mem1 e 5 = -1) (hA : ADDP ln1 mem1 sz1 30 e kd2 ln2 mem2) (hz2 : mem2 30 1 < sz2) (hE2 : EXT kd1 ln1 sz1 kd2 ln2 sz2) : GRX kd2 ln2 (set2 mem2 (mem v 16) n 1) sz2 (slipM mem p n c am) := by
  have hs := hI.1.2.2.2.2.1
  have hn := hI.sls
  have hl : mem1 30 1 < sz := by rw [hf1 30 1 (by omega)]; exact hI.g30.1.2.2.2.2.1
  have hat := hA.at hl (by omega) (b := e) (by omega)
  have hva := hv.at
  have h16 := hv.row 16 (by decide)
  have eT := hE1.tr hE2
  have z1 := hE1.1
  have z2 := hE2.1
  have htg : TGX sz tg (tgN tg sz sz1 30 (mem 35 45) id) := tgN_x
  have hAA : ∀ L' : Int, 3 ≤ L' → L' ≤ 34 → L' ≠ 30 → AG sz tg mem mem2 L' := fun L' q1 q2 q3 => hA.ag hI.g30.2.1 hf1 (by omega) hs ⟨by decide, by decide, q1, q2, q3⟩
  have hAB : ∀ L' : Int, 3 ≤ L' → L' ≤ 34 → L' ≠ 30 → L' ≠ 29 → AG sz tg mem (set2 mem2 (mem v 16) n 1) L' := fun L' q1 q2 q3 q4 => ⟨funext fun j => (s2_a (by omega)).trans (congrFun (hAA L' q1 q2 q3).1 j), fun a u1 u2 u3 u4 => funext fun j => (s2_a (fun w => by have := h16.2.2.2.2; rw [← w] at this; omega)).trans (congrFun ((hAA L' q1 q2 q3).2 a u1 u2 u3 u4) j)⟩
  have hob : ∀ (L' i a : Int), OWN sz tg a (L' * 10000 + 100 * (i + 1)) → 27 ≤ L' ∧ L' ≤ 34 → L' ≠ 30 → 0 ≤ i ∧ i ≤ 63 → set2 mem2 (mem v 16) n 1 a = mem a := fun L' i a q1 q2 q3 q4 => funext fun j => (s2_a (fun w => by have := h16.2.2.2.2; rw [← w] at this; have := q1.2.2; have := hva.2.2.2.2; omega)).trans (congrFun ((hAA L' (by omega) (by omega) q3).own q1 (by omega)) j)
  have hm : ∀ x j : Int, (¬ (63 ≤ x ∧ x ≤ 68 ∧ j = mem 35 45) ∧ ¬ (x = 35 ∧ j = 45)) → slipM mem p n c am x j = mem x j := fun x j q => slipM_o q
  have hcnt : slipM mem p n c am 35 45 = mem 35 45 + 1 := by unfold slipM; exact s2_s
  obtain ⟨h0, h27, h28, h29, h30, h31, h32, h33, h34⟩ := hI.2.2
  have hl27 := h27.len
  have hl28 := h28.len
  have hl29 := h29.len
  have hl30 := h30.len
  have hl31 := h31.len
  have hl32 := h32.len
  have hl33 := h33.len
  have hl34 := h34.len
  have hCP := hI.cps
  refine ⟨tgN tg sz sz1 30 (mem 35 45) id, ?_, ?_, ?_, ?_, ?_, ?_, ?_, ?_, ?_⟩
  · obtain ⟨⟨g1, g2, g3, g4, g5, g6⟩, g7, g8, g9, g10⟩ := h0
    have f : ∀ b j : Int, 3 ≤ b → b ≤ 6 → set2 mem2 (mem v 16) n 1 b j = mem b j := fun b j u1 u2 => congrFun (hAB b u1 (by omega) (by omega) (by omega)).1 j
    refine ⟨⟨?_, ?_, ?_, ?_, ?_, ?_⟩, fun x y q1 q2 q3 q4 => ?_, ?_, ?_, fun j q => ?_⟩
    · rw [f 3 0 (by decide) (by decide), hm 35 0 (by omega)]; exact g1
    · rw [f 3 1 (by decide) (by decide), hm 35 2 (by omega)]; exact g2
    · rw [f 3 2 (by decide) (by decide), hm 35 46 (by omega)]; exact g3
    · rw [f 3 3 (by decide) (by decide), hm 35 89 (by omega)]; exact g4
    · rw [f 3 4 (by decide) (by decide), hm 35 72 (by omega)]; exact g5
    · rw [f 3 5 (by decide) (by decide), hm 35 65 (by omega)]; exact g6
    · rw [f 4 _ (by decide) (by decide), g7 x y q1 q2 q3 q4]
      unfold leftV leftW
      rw [hm 35 65 (by omega), lsN_cg (M := mem) (M' := slipM mem p n c am) _ (fun s _ _ => ⟨hm 77 s (by omega), hm 78 s (by omega)⟩), hm 79 _ (by omega), hm 80 _ (by omega), hm 81 _ (by omega)]
    · rw [f 5 1 (by decide) (by decide), hm 35 11 (by omega)]; exact g8
    · rw [show set2 mem2 (mem v 16) n 1 6 = mem 6 from funext fun j => f 6 j (by decide) (by decide), g9]; exact (funext fun j => hm 39 j (by omega)).symm
    · rw [f 6 j (by decide) (by decide)]; exact g10 j q
  · exact h27.fr eT htg (hAB 27 (by decide) (by decide) (by decide) (by decide)) (by omega) (hm 35 6 (by omega)) (fun i a q1 q2 q3 q4 => q4.tr (hob 27 i a q3 (by decide) (by decide) (by omega)) (hm 36 i (by omega)) (hm 37 i (by omega)) (hm 38 i (by omega)))
  · exact h28.fr eT htg (hAB 28 (by decide) (by decide) (by decide) (by decide)) (by omega) (hm 35 16 (by omega)) (fun i a q1 q2 q3 q4 => q4.tr eT htg ⟨q1, by omega⟩ (hAB 28 (by decide) (by decide) (by decide) (by decide)).r (hob 28 i a q3 (by decide) (by decide) (by omega)) (Or.inl (funext fun j => hm 41 j (by omega))) (hm 42 i (by omega)))
  · have hA29 := hAA 29 (by decide) (by decide) (by decide)
    refine h29.fr2 eT htg (funext fun j => (s2_a (by omega)).trans (congrFun hA29.1 j)) ?_ (by omega) (hm 35 33 (by omega)) (fun P q1 q2 q3 q4 => ?_)
    · rcases h29.2.1 with w | w
      · exact funext fun j => (s2_a (by omega)).trans ((hA.mkp (hI.g30.2.1.imp id (fun u => u.1)) hf1 hs (by omega) (by decide) _ j (by omega)))
      · exact funext fun j => (s2_a (fun u => by have := h16.2.2.2.2; rw [← u] at this; have := w.2.2; omega)).trans (congrFun (hA29.own w (by omega)) j)
    · obtain ⟨a, hax⟩ : ∃ y : Int, y = mem (mem 29 1) P := ⟨_, rfl⟩
      rw [← hax] at q3 q4 ⊢
      have hrw : ∀ k : Int, 9 ≤ k → k ≤ 18 → k ≠ 16 → (k = 17 → 101 ≤ mem a 17) → set2 mem2 (mem v 16) n 1 (mem a k) = mem (mem a k) := fun k u1 u2 u3 u4 => by
        have ht : 101 ≤ mem a k ∧ mem a k < sz ∧ tg (mem a k) = 290000 + 100 * (P + 1) + k := by
          by_cases w : k = 17
          · rcases q4.2.2.2.1 with ⟨x1, x2⟩ | ⟨⟨x1, x2, x3, x4, x5⟩, _⟩
            · have := u4 w; omega
            · rw [w]; exact ⟨x3, x4, x5⟩
          · have x := q4.2.1 k u1 u2 w
            exact ⟨x.2.2.1, x.2.2.2.1, x.2.2.2.2⟩
        exact funext fun j => (s2_a (fun u => by have := h16.2.2.2.2; rw [← u] at this; omega)).trans (congrFun (hA29.2 _ ht.1 ht.2.1 (by omega) (by omega)) j)
      have hav := hob 29 P a q3 (by decide) (by decide) (by omega)
      have hpg := hI.pgs.2.2 P q1 (by omega)
      refine q4.mk3 eT htg (fun j _ => congrFun hav j) (fun k u1 u2 => hrw k u1 (by omega) (by omega) (fun w => by omega)) (fun k u1 u2 => hm k P (by omega)) (fun k u1 u2 => hm k _ (by omega)) (fun k n u1 u2 u3 u4 => hm k _ (by omega)) (fun k u1 u2 => ?_) (q4.2.2.2.1.fr eT htg (congrFun hav 17) (fun w => hrw 17 (by decide) (by decide) (by decide) (fun _ => w)) (hm 82 P (by omega)) (hm 47 P (by omega)) (fun n _ _ => hm 83 _ (by omega))) (q4.2.2.2.2.fr (congrFun hav 18) (hrw 18 (by decide) (by decide) (by decide) (fun w => by omega)) (fun n j _ _ _ _ => by rw [hm 35 72 (by omega)]; exact pvN_cg _ (fun s _ _ => ⟨hm 84 s (by omega), hm 85 s (by omega), hm 86 s (by omega), hm 87 s (by omega)⟩)))
      rw [hcnt, slB_slip hn.1]
      have h16a := q4.2.1 16 (by decide) (by decide) (by decide)
      have hold : mem2 (mem a 16) k = slB mem P k (mem 35 45).toNat := (congrFun (hA29.2 _ h16a.2.2.1 h16a.2.2.2.1 (by have := h16a.2.2.2.2; omega) (by have := h16a.2.2.2.2; omega)) k).trans (q4.2.2.1 k u1 u2).2.2.2.2.2.2.2.2.1
      by_cases w : P = p ∧ k = n
      · have hav2 : a = v := by rw [hv.1.1, ← w.1]; exact hax
        rw [if_pos w, hav2, w.2]
        exact s2_s
      · rw [if_neg w, ← hold]
        refine if_neg (fun u => w ⟨?_, u.2⟩)
        have e1 := h16a.2.2.2.2
        rw [u.1, h16.2.2.2.2] at e1
        omega
  · have hl := h30.add (O2 := O30 mem2 (slipM mem p n c am)) (by have := hn.2.1; omega) hcnt hE1 hf1 hA hz2 hE2 (by omega) hke hs htg (tgN_1 (by omega)) (by rw [tgN_n (by omega), he, Int.sub_self]; exact Int.add_zero _) (by decide) (fun i a q1 q2 q3 q4 => q4.tr ?_ (fun k w1 w2 => hm k i (by omega))) ?_
    · refine hl.fr EXT.rf (fun _ _ => rfl) ⟨funext fun j => s2_a (by omega), fun a u1 u2 u3 u4 => funext fun j => s2_a (fun w => by have := htg _ h16.2.2.2.1; rw [w, this, h16.2.2.2.2] at u3; omega)⟩ (by omega) rfl (fun i a q1 q2 q3 q4 => ?_)
      have : set2 mem2 (mem v 16) n 1 a = mem2 a := funext fun j => s2_a (fun w => by have := htg _ h16.2.2.2.1; have u := q3.2.2; rw [w, this, h16.2.2.2.2] at u; omega)
      unfold O30
      rw [this]
      exact q4
    · refine funext fun j => ?_
      obtain ⟨-, -, -, a4, -, -, -, -, a9⟩ := hA
      have e1 : mem1 30 1 = mem 30 1 := hf1 30 1 (by omega)
      rw [a9 a j (by have := q3.1; omega) (fun w => by have x := q3.2.2; have y := q3.2.1; rcases a4 with v | v <;> rcases h30.2.1 with u | u <;> first | omega | (have := u.2.2; rw [← e1, ← v, ← w] at this; omega))]
      exact hf1 a j q3.2.1
    · refine ⟨?_, ?_, ?_, ?_, ?_, ?_⟩
      · rw [hat 0, hfl.1]; unfold slipM; rw [s2_a (by decide), s2_a (by decide), s2_a (by decide), s2_a (by decide), s2_a (by decide), s2_a (by decide), s2_s]
      · rw [hat 1, hfl.2.1]; unfold slipM; rw [s2_a (by decide), s2_a (by decide), s2_a (by decide), s2_a (by decide), s2_a (by decide), s2_s]
      · rw [hat 2, hfl.2.2.1]; unfold slipM; rw [s2_a (by decide), s2_a (by decide), s2_a (by decide), s2_a (by decide), s2_s]
      · rw [hat 3, hfl.2.2.2.1]; unfold slipM; rw [s2_a (by decide), s2_a (by decide), s2_a (by decide), s2_s]
      · rw [hat 4, hfl.2.2.2.2.1]; unfold slipM; rw [s2_a (by decide), s2_a (by decide), s2_s]
      · rw [hat 5, hfl.2.2.2.2.2]; unfold slipM; rw [s2_a (by decide), s2_s]
  · exact h31.fr eT htg (hAB 31 (by decide) (by decide) (by decide) (by decide)) (by omega) (hm 35 79 (by omega)) (fun i a q1 q2 q3 q4 => q4.tr eT htg ⟨q1, by omega⟩ (hAB 31 (by decide) (by decide) (by decide) (by decide)).r (hob 31 i a q3 (by decide) (by decide) (by omega)) (hm 88 i (by omega)) (hm 47 _ (by omega)) (fun n _ _ => hm 89 _ (by omega)))
  · exact h32.fr eT htg (hAB 32 (by decide) (by decide) (by decide) (by decide)) (by omega) (hm 35 84 (by omega)) (fun i a q1 q2 q3 q4 => q4.tr eT htg ⟨q1, by omega⟩ (hAB 32 (by decide) (by decide) (by decide) (by decide)).r (hob 32 i a q3 (by decide) (by decide) (by omega)) (hm 94 i (by omega)) (fun n _ _ => ⟨hm 95 _ (by omega), hm 96 _ (by omega)⟩))
  · exact h33.fr eT htg (hAB 33 (by decide) (by decide) (by decide) (by decide)) (by omega) (hm 35 80 (by omega)) (fun i a q1 q2 q3 q4 => q4.tr (hob 33 i a q3 (by decide) (by decide) (by omega)) (fun k w1 w2 => hm k i (by omega)))
  · exact h34.fr eT htg (hAB 34 (by decide) (by decide) (by decide) (by decide)) (by omega) (hm 35 88 (by omega)) (fun i a q1 q2 q3 q4 => q4.tr eT htg ⟨q1, by omega⟩ (hAB 34 (by decide) (by decide) (by decide) (by decide)).r (hob 34 i a q3 (by decide) (by decide) (by omega)) (hm 97 i (by omega)) (hm 98 i (by omega)) (fun n _ _ => hm 99 _ (by omega)))
end
theorem MKP.s {mem m : Int → Int → Int} {a k v : Int} (h : MKP mem m) (ha : 100 < a) : MKP mem (set2 m a k v) := ⟨fun b j q1 q2 => (s2_a (by omega)).trans (h.1 b j q1 q2), by (have w := h.2; unfold EB at *; rw [s2_a (by omega), s2_a (by omega), s2_a (by omega)]; exact w)⟩
set_option maxHeartbeats 4000000 in
set_option maxRecDepth 100000 in
theorem c_X11_slip {l : Launch} {g : GP} (hG : GH g) {kd : Int → Nat} {ln : Int → Int} {mem : Int → Int → Int} {sz : Nat} (hK : HK kd ln) (hR : HR mem) (p n c w : Int) (tg : Int → Int) (hI : INV kd ln mem sz tg) (hEM : EMP g) (mi : Nat) (hMI : va_Mi "[Ljava/lang/Object;" mi (gs g)) (h_p : InI p) (h_n : InI n) (h_c : InI c) (h_w : InI w) : MT l g yX11_slip cX11_slip 6 (some .int) 7 2 106 [(2, 3), (0, p), (0, n), (0, c), (0, w)] kd ln mem sz (pXR 0 (fun v kd' ln' mem' sz' => HR mem' ∧ (((slipC mem p n c w) → v = mem 35 45 ∧ GRX kd' ln' mem' sz' (slipM mem p n c w)) ∧ (¬ (slipC mem p n c w) → v = -1 ∧ GRX kd' ln' mem' sz' mem) ∧ MKP mem mem')) kd ln sz) := by
  refine MT_of hG (by decide +kernel) (Nat.le_of_ble_eq_true rfl) (fun z hF hr hn => ?_)
  obtain ⟨⟨q0, q1, q2, q3, q4, q5⟩, u0, u2, u46, u89, usz⟩ := hI.num
  have n30 : 0 ≤ mem 35 45 ∧ mem 35 45 ≤ 60 := ⟨hI.sls.1, hI.sls.2.1⟩
  have n29 : 0 ≤ mem 35 33 ∧ mem 35 33 ≤ 12 := ⟨hI.pgs.1, hI.pgs.2.1⟩
  obtain ⟨e30, k30, r30, b30, c30⟩ := hI.g30.ls
  obtain ⟨e29, k29, r29, b29, c29⟩ := hI.g29.ls
  refine jblk hF [(.aload_n 0, 1), (.iload_n 1, 1), (.iload_n 2, 1)] (by decide +kernel) (pc' := 3) (lo' := [(0, (2, 3)), (1, (0, p)), (2, (0, n)), (3, (0, c)), (4, (0, w))]) (st' := [(0, n), (0, p), (2, 3)]) rfl ?_
  refine jcallV hF (c_X11_pageWith hG hK hR p n (by exact tg) (by assumption) (by omega) (by omega)) MW_X11_pageWith 12 (by decide) (by exact hK.k3) wd_869 wd_871 wd_p25 (by decide +kernel) [] rfl rfl (by decide) (Nat.le_of_ble_eq_true rfl) (by decide) (kR (fun v_1 h_2 => ?_))
  have hv := h_2
  refine jblk hF [(.astore 5, 2), (.aload 5, 2)] (by decide +kernel) (pc' := 10) (lo' := [(5, (2, v_1)), (0, (2, 3)), (1, (0, p)), (2, (0, n)), (3, (0, c)), (4, (0, w))]) (st' := [(2, v_1)]) rfl ?_
  refine jnull hF (off := 42) 52 (by decide +kernel) (by decide) (fun h_3 => ?_) (fun h_3 => ?_)
  · have hng : ¬ slipC mem p n c w := fun u => by first | omega | exact (hv.2 (by omega)).1 u.1
    refine jblk hF [(.iconst (-1), 1)] (by decide +kernel) (pc' := 53) (lo' := [(5, (2, v_1)), (0, (2, 3)), (1, (0, p)), (2, (0, n)), (3, (0, c)), (4, (0, w))]) (st' := [(0, (-1))]) rfl ?_
    refine jwiden (k := 2) (n := 106) (Nat.le_of_ble_eq_true rfl) (Nat.le_of_ble_eq_true rfl) ?_
    refine jiret hF hr (by decide +kernel) ?_
    exact ⟨_, rfl, EXT.rf, ⟨hR, by exact ⟨fun u => absurd u hng, fun _ => ⟨rfl, ⟨tg, hI.2.2⟩⟩, MKP.rf hI⟩⟩⟩
  · obtain ⟨hpg, hpo⟩ := hv.1 (by omega)
    have hk := hpo.at
    have hpb := hpo.pb
    have hgn := hpo.nm
    have hn2 := hgn.2.2.1
    have hn4 := hgn.2.2.2.2.1
    have hn7 := hgn.2.2.2.2.2.2.2.1
    have hmo : n % mem v_1 7 = n % mem 52 p := by rw [hn7]
    refine jblk hF [(.aload 5, 2), (.iload_n 2, 1), (.iload_n 3, 1)] (by decide +kernel) (pc' := 17) (lo' := [(5, (2, v_1)), (0, (2, 3)), (1, (0, p)), (2, (0, n)), (3, (0, c)), (4, (0, w))]) (st' := [(0, c), (0, n), (2, v_1)]) rfl ?_
    refine jcallV hF (c_X3_canSlip hG v_1 n c (by exact hk.1) (by omega) (by assumption) (by omega) (by omega)) MW_X3_canSlip 4 (by decide) (by first | exact hk.1 | exact hkv | exact hk16 | assumption | omega) wd_885 wd_886 wd_887 (by decide +kernel) [] rfl rfl (by decide) (Nat.le_of_ble_eq_true rfl) (by decide) (kB (fun h_4 => ?_) (fun h_4 => ?_))
    · refine jif_eq hF (off := 32) 52 (by decide +kernel) (by decide) (by decide) (fun h => absurd h (by decide)) (fun _ => ?_)
      refine jblk hF [(.iload 4, 2)] (by decide +kernel) (pc' := 25) (lo' := [(5, (2, v_1)), (0, (2, 3)), (1, (0, p)), (2, (0, n)), (3, (0, c)), (4, (0, w))]) (st' := [(0, w)]) rfl ?_
      refine jif_eq hF (off := 27) 52 (by decide +kernel) (by decide) (by omega) (fun h_6 => ?_) (fun h_6 => ?_)
      · have hng : ¬ slipC mem p n c w := fun u => by first | omega | exact (hv.2 (by omega)).1 u.1
        refine jblk hF [(.iconst (-1), 1)] (by decide +kernel) (pc' := 53) (lo' := [(5, (2, v_1)), (0, (2, 3)), (1, (0, p)), (2, (0, n)), (3, (0, c)), (4, (0, w))]) (st' := [(0, (-1))]) rfl ?_
        refine jwiden (k := 2) (n := 106) (Nat.le_of_ble_eq_true rfl) (Nat.le_of_ble_eq_true rfl) ?_
        refine jiret hF hr (by decide +kernel) ?_
        exact ⟨_, rfl, EXT.rf, ⟨hR, by exact ⟨fun u => absurd u hng, fun _ => ⟨rfl, ⟨tg, hI.2.2⟩⟩, MKP.rf hI⟩⟩⟩
      · refine jblk hF [(.iload 4, 2)] (by decide +kernel) (pc' := 30) (lo' := [(5, (2, v_1)), (0, (2, 3)), (1, (0, p)), (2, (0, n)), (3, (0, c)), (4, (0, w))]) (st' := [(0, w)]) rfl ?_
        refine jldc hF (-1000000) (cst_i wd_893 (by decide)) (by decide +kernel) ?_
        refine jldc hF 1000000 (cst_i wd_894 (by decide)) (by decide +kernel) ?_
        refine jcallS hF (c_X11_within hG w (-1000000) 1000000 (by omega) (by decide) (by decide)) MW_X11_within wd_391 wd_392 (by decide +kernel) [] rfl rfl (by decide) (Nat.le_of_ble_eq_true rfl) (by decide) (kB (fun h_7 => ?_) (fun h_7 => ?_))
        · refine jif_eq hF (off := 15) 52 (by decide +kernel) (by decide) (by decide) (fun h => absurd h (by decide)) (fun _ => ?_)
          refine jblk hF [(.aload_n 0, 1)] (by decide +kernel) (pc' := 41) (lo' := [(5, (2, v_1)), (0, (2, 3)), (1, (0, p)), (2, (0, n)), (3, (0, c)), (4, (0, w))]) (st' := [(2, 3)]) rfl ?_
          refine jget hF 12 15 2 15 rfl (by decide) (by decide) rfl wd_341 (by decide +kernel) (by exact hK.k3) ?_
          rw [HR.r3_15 hR]
          refine jcallV hF (c_Jx4a65c_size_8abf5 hG 30 (by first | assumption | omega)) MW_Jx4a65c_size_8abf5 0 (by decide) (by exact hK.k30) wd_410 wd_411 wd_412 (by decide +kernel) [] rfl rfl (by decide) (Nat.le_of_ble_eq_true rfl) (by decide) (kV ?_)
          rw [e30]
          refine jblk hF [(.bipush 60, 2)] (by decide +kernel) (pc' := 49) (lo' := [(5, (2, v_1)), (0, (2, 3)), (1, (0, p)), (2, (0, n)), (3, (0, c)), (4, (0, w))]) (st' := [(0, 60), (0, mem 35 45)]) rfl ?_
          refine jicmp_lt hF (off := 5) 54 (by decide +kernel) (by decide) (by omega) (by decide) (fun h_9 => ?_) (fun h_9 => ?_)
          · have hcc : slipC mem p n c w := ⟨hpg, by omega, by omega, by omega, by omega, by omega⟩
            have h16 := hpo.row 16 (by decide)
            have hq16 : kd (mem v_1 16) = 20 := h16.1
            refine jblk hF [(.aload_n 0, 1)] (by decide +kernel) (pc' := 55) (lo' := [(5, (2, v_1)), (0, (2, 3)), (1, (0, p)), (2, (0, n)), (3, (0, c)), (4, (0, w))]) (st' := [(2, 3)]) rfl ?_
            refine jget hF 12 15 2 15 rfl (by decide) (by decide) rfl wd_341 (by decide +kernel) (by exact hK.k3) ?_
            rw [HR.r3_15 hR]
            refine jnew hF 9 (by decide) okT_9 wd_895 wd_896 wd_123 (by decide +kernel) ⟨Nat.le_of_ble_eq_true rfl, Nat.le_of_ble_eq_true rfl⟩ ?_
            obtain ⟨kd_10, hkd_10⟩ : ∃ q : Int → Nat, q = upK kd ((sz : Nat) : Int) (10) := ⟨_, rfl⟩
            obtain ⟨m_10, hm_10⟩ : ∃ q : Int → Int → Int, q = newO 9 mem ((sz : Nat) : Int) := ⟨_, rfl⟩
            obtain ⟨sz_10, hsz_10⟩ : ∃ q : Nat, q = sz + 1 := ⟨_, rfl⟩
            obtain ⟨a_10, ha_10⟩ : ∃ q : Int, q = ((sz : Nat) : Int) := ⟨_, rfl⟩
            rw [← hkd_10, ← hm_10, ← hsz_10]
            rw [← ha_10]
            have hk_10 : kd_10 a_10 = 10 := by rw [ha_10, hkd_10]; exact if_pos rfl
            have hE_10 : EXT kd ln sz kd_10 ln sz_10 := by rw [hsz_10, hkd_10]; exact EXT.k _
            have hEE_10 : EXT kd ln sz kd_10 ln sz_10 := (EXT.rf).tr hE_10
            have hK_10 : HK kd_10 ln := hK.ext hE_10 (by omega)
            have hR_m_10 : HR m_10 := HR.of hR (fun a k q => by rw [hm_10]; exact newO_o _ (by omega))
            have hmo_10 : ∀ b j : Int, b ≠ a_10 → m_10 b j = mem b j := fun b j q => by rw [hm_10]; exact newO_o j (by rw [← ha_10]; exact q)
            have hmn_10 : ∀ j : Int, m_10 a_10 j = dfl 9 j.toNat := fun j => by rw [hm_10, ha_10]; exact newO_s j
            have hmoA := hmo_10
            have hmnA := hmn_10
            have hEA := hE_10
            have hkA := hk_10
            have haA := ha_10
            have hszA := hsz_10
            have hEEA := hEE_10
            refine jblk hF [(.dup, 1), (.iload_n 1, 1), (.iload_n 2, 1), (.iload_n 3, 1), (.iload 4, 2), (.aload_n 0, 1)] (by decide +kernel) (pc' := 68) (lo' := [(5, (2, v_1)), (0, (2, 3)), (1, (0, p)), (2, (0, n)), (3, (0, c)), (4, (0, w))]) (st' := [(2, 3), (0, w), (0, c), (0, n), (0, p), (2, a_10), (2, a_10), (2, 30)]) rfl ?_
            refine jget hF 12 0 0 0 rfl (by decide) (by decide) rfl wd_326 (by decide +kernel) (by exact hK_10.k3) ?_
            refine jcallI hF (c_X8_init hG a_10 p n c w (m_10 3 0) (by first | assumption | omega) (by omega)) MW_X8_init rfl (by first | assumption | omega) wd_897 wd_898 (by decide +kernel) [(2, a_10), (2, 30)] rfl rfl (by decide) (Nat.le_of_ble_eq_true rfl) ⟨Nat.le_of_ble_eq_true rfl, Nat.le_of_ble_eq_true rfl⟩ (kMV (fun m_11 h_12 => ?_))
            have hfl := h_12
            have hE1x := hEEA
            have hf1x : ∀ b j : Int, b < sz → m_11 b j = mem b j := fun b j u => by rw [hfl, s2_a (by omega), s2_a (by omega), s2_a (by omega), s2_a (by omega), s2_a (by omega), s2_a (by omega)]; exact hmoA b j (by omega)
            have hR_m_11 : HR m_11 := HR.of hR (fun x k u => hf1x x k (by omega))
            have hke := hkA
            have hlo := hI.g30.lso hE1x hf1x wx_2266 (by decide) (by omega)
            refine jcallV hF (c_Jx4a65c_add_9ea2d hG 30 a_10 (by assumption) (by exact mi) (by assumption) (by exact hlo.1) (by exact hlo.2) (by exact 9) (by decide) (by first | assumption | exact hke) (by omega) (by exact wx_2266)) MW_Jx4a65c_add_9ea2d 0 (by decide) (by exact hK_10.k30) wd_430 wd_431 wd_432 (by decide +kernel) [] rfl rfl (by decide) (Nat.le_of_ble_eq_true rfl) (by decide) (kXR (fun v_13 kd_13 ln_13 m_13 sz_13 hE_13 h_13 => ?_))
            have hEE_13 : EXT kd ln sz kd_13 ln_13 sz_13 := (hEE_10).tr hE_13
            have hK_13 : HK kd_13 ln_13 := hK_10.ext hE_13 (by omega)
            obtain ⟨hv1, hAd, hAz⟩ := h_13
            have hE2x := hE_13
            have hfx : ∀ a j : Int, (a < 27 ∨ (34 < a ∧ a ≤ 100)) → m_13 a j = mem a j := hAd.mkp (hI.g30.2.1.imp id (fun u => u.1)) hf1x (by omega) (by omega) (by decide)
            have hR_m_13 : HR m_13 := HR.of hR (fun x k u => hfx x k (by omega))
            have hsz2 : m_13 30 2 = mem 35 45 + 1 := by rw [hAd.2.2.2.2.2.1, hf1x 30 2 (by omega), e30]
            have hmk : MKP mem m_13 := MKP.of hI hfx
            have hkLx : kd_13 30 = 1 := ((hE1x.tr hE2x).2 30 (by omega)).1.trans k30
            have hfv : ∀ j : Int, m_13 v_1 j = mem v_1 j := fun j => by
              have := (hAd.ag (tg := tg) (mem := mem) (sz := sz) (L' := 29) hI.g30.2.1 hf1x (by omega) (by omega) (by decide)).own hpo.1.2.2.1 (by omega)
              exact congrFun this j
            have hkv : kd_13 v_1 = 5 := ((hE1x.tr hE2x).2 v_1 (by omega)).1.trans hk.1
            have e16 : m_13 v_1 16 = mem v_1 16 := hfv 16
            have hk16 : kd_13 (m_13 v_1 16) = 20 := by rw [e16]; exact ((hE1x.tr hE2x).2 _ (by omega)).1.trans hq16
            have hl16 : ln_13 (m_13 v_1 16) = 40 := by rw [e16]; exact ((hE1x.tr hE2x).2 _ (by omega)).2.trans h16.2.1
            refine jblk hF [(.pop, 1), (.aload 5, 2)] (by decide +kernel) (pc' := 80) (lo' := [(5, (2, v_1)), (0, (2, 3)), (1, (0, p)), (2, (0, n)), (3, (0, c)), (4, (0, w))]) (st' := [(2, v_1)]) rfl ?_
            refine jget hF 4 16 2 16 rfl (by decide) (by decide) rfl wd_726 (by decide +kernel) (by first | exact hk.1 | exact hkv | exact hk16 | assumption | omega) ?_
            refine jblk hF [(.iload_n 2, 1), (.iconst 1, 1)] (by decide +kernel) (pc' := 85) (lo' := [(5, (2, v_1)), (0, (2, 3)), (1, (0, p)), (2, (0, n)), (3, (0, c)), (4, (0, w))]) (st' := [(0, 1), (0, n), (2, m_13 v_1 16)]) rfl ?_
            refine jiast hF (by decide +kernel) (by omega) (by first | exact hk.1 | exact hkv | exact hk16 | assumption | omega) (by omega) (by omega) ?_
            refine jblk hF [(.aload_n 0, 1)] (by decide +kernel) (pc' := 87) (lo' := [(5, (2, v_1)), (0, (2, 3)), (1, (0, p)), (2, (0, n)), (3, (0, c)), (4, (0, w))]) (st' := [(2, 3)]) rfl ?_
            refine jget hF 12 15 2 15 rfl (by decide) (by decide) rfl wd_341 (by decide +kernel) (by exact hK_13.k3) ?_
            rw [HR.r3_15 (HR.s hR_m_13 (by omega))]
            refine jcallV hF (c_Jx4a65c_size_8abf5 hG 30 (by first | assumption | omega)) MW_Jx4a65c_size_8abf5 0 (by decide) (by exact hK_13.k30) wd_410 wd_411 wd_412 (by decide +kernel) [] rfl rfl (by decide) (Nat.le_of_ble_eq_true rfl) (by decide) (kV ?_)
            rw [s2_a (by omega), hsz2]
            refine jblk hF [(.iconst 1, 1), (.isub, 1)] (by decide +kernel) (pc' := 95) (lo' := [(5, (2, v_1)), (0, (2, 3)), (1, (0, p)), (2, (0, n)), (3, (0, c)), (4, (0, w))]) (st' := [(0, (mem 35 45 + 1) - 1)]) rfl ?_
            refine jwiden (k := 2) (n := 106) (Nat.le_of_ble_eq_true rfl) (Nat.le_of_ble_eq_true rfl) ?_
            refine jiret hF hr (by decide +kernel) ?_
            exact ⟨_, rfl, hEE_13, ⟨(HR.s hR_m_13 (by omega)), by (rw [e16]; exact ⟨fun _ => ⟨by omega, GRX.slip hI hcc hpo hE1x hf1x haA (by omega) hkA ⟨by rw [hfl, s2_k (by decide), s2_k (by decide), s2_k (by decide), s2_k (by decide), s2_k (by decide), s2_s], by rw [hfl, s2_k (by decide), s2_k (by decide), s2_k (by decide), s2_k (by decide), s2_s], by rw [hfl, s2_k (by decide), s2_k (by decide), s2_k (by decide), s2_s], by rw [hfl, s2_k (by decide), s2_k (by decide), s2_s], by rw [hfl, s2_k (by decide), s2_s]; exact (hmoA 3 0 (by omega)).trans q0, by rw [hfl, s2_s]⟩ hAd hAz hE2x⟩, fun u => absurd hcc u, hmk.s (by omega)⟩)⟩⟩
          · have hng : ¬ slipC mem p n c w := fun u => by first | omega | exact (hv.2 (by omega)).1 u.1
            refine jblk hF [(.iconst (-1), 1)] (by decide +kernel) (pc' := 53) (lo' := [(5, (2, v_1)), (0, (2, 3)), (1, (0, p)), (2, (0, n)), (3, (0, c)), (4, (0, w))]) (st' := [(0, (-1))]) rfl ?_
            refine jwiden (k := 2) (n := 106) (Nat.le_of_ble_eq_true rfl) (Nat.le_of_ble_eq_true rfl) ?_
            refine jiret hF hr (by decide +kernel) ?_
            exact ⟨_, rfl, EXT.rf, ⟨hR, by exact ⟨fun u => absurd u hng, fun _ => ⟨rfl, ⟨tg, hI.2.2⟩⟩, MKP.rf hI⟩⟩⟩
        · refine jif_eq hF (off := 15) 52 (by decide +kernel) (by decide) (by decide) (fun _ => ?_) (fun h => absurd h (by decide))
          have hng : ¬ slipC mem p n c w := fun u => by first | omega | exact (hv.2 (by omega)).1 u.1
          refine jblk hF [(.iconst (-1), 1)] (by decide +kernel) (pc' := 53) (lo' := [(5, (2, v_1)), (0, (2, 3)), (1, (0, p)), (2, (0, n)), (3, (0, c)), (4, (0, w))]) (st' := [(0, (-1))]) rfl ?_
          refine jwiden (k := 2) (n := 106) (Nat.le_of_ble_eq_true rfl) (Nat.le_of_ble_eq_true rfl) ?_
          refine jiret hF hr (by decide +kernel) ?_
          exact ⟨_, rfl, EXT.rf, ⟨hR, by exact ⟨fun u => absurd u hng, fun _ => ⟨rfl, ⟨tg, hI.2.2⟩⟩, MKP.rf hI⟩⟩⟩
    · refine jif_eq hF (off := 32) 52 (by decide +kernel) (by decide) (by decide) (fun _ => ?_) (fun h => absurd h (by decide))
      have hng : ¬ slipC mem p n c w := fun u => by first | omega | exact (hv.2 (by omega)).1 u.1
      refine jblk hF [(.iconst (-1), 1)] (by decide +kernel) (pc' := 53) (lo' := [(5, (2, v_1)), (0, (2, 3)), (1, (0, p)), (2, (0, n)), (3, (0, c)), (4, (0, w))]) (st' := [(0, (-1))]) rfl ?_
      refine jwiden (k := 2) (n := 106) (Nat.le_of_ble_eq_true rfl) (Nat.le_of_ble_eq_true rfl) ?_
      refine jiret hF hr (by decide +kernel) ?_
      exact ⟨_, rfl, EXT.rf, ⟨hR, by exact ⟨fun u => absurd u hng, fun _ => ⟨rfl, ⟨tg, hI.2.2⟩⟩, MKP.rf hI⟩⟩⟩
end
