section INIT0
/-! the two sides at the law's loop, first time -/
theorem LSG.zero {kd : Int → Nat} {ln : Int → Int} {mem : Int → Int → Int} {sz : Nat} {tg : Int → Int} {L N : Int} {c : Nat} {O : Int → Int → Prop} (hs : 101 ≤ sz) (hL : 27 ≤ L ∧ L ≤ 34) (hk : kd L = 1) (h1 : kd 1 = 23 ∧ ln 1 = 0) (hm : mem L 1 = 1 ∧ mem L 2 = 0) (hN : N = 0) : LSG kd ln mem sz tg L N c O := by
  subst hN
  refine ⟨?_, Or.inl hm.1, hm.2, fun i q1 q2 => by omega⟩
  unfold LSO
  rw [hm.1, hm.2, h1.1, h1.2]
  exact ⟨hk, by omega, by omega, rfl, by omega, by decide, by decide, by decide, by decide, fun _ => by decide, Or.inl ⟨rfl, rfl⟩, by omega⟩
theorem sm_P : ∀ p ∈ smR, ∃ t ∈ List.range 64, (PX12_init[t]?).map Prod.fst = some p.1 ∧ p.2 = 36 + ((t : Nat) : Int) := by decide +kernel
theorem sm_K : ∀ p ∈ smK, ∃ t ∈ List.range 64, (PX12_init[t]?).map Prod.snd = some p.2 ∧ p.1 = 36 + ((t : Nat) : Int) := by decide +kernel
theorem px_T : ∀ t ∈ List.range 64, (PX12_init[t]?).isSome = true := by decide +kernel
set_option maxHeartbeats 4000000 in
set_option maxRecDepth 100000 in
theorem LINV_0 {kd1 kd3 : Int → Nat} {ln1 ln3 : Int → Int} {mA m1 m3 : Int → Int → Int} (hH : HOUT mA kd1 ln1 m1) (hE : EXT (upK kd1 ((35 : Nat) : Int) 14) ln1 36 kd3 ln3 100) (hJ : SNJ (set2 (set2 (newO 13 m1 ((35 : Nat) : Int)) 35 2 (-1)) 35 89 10) 35 ((36 : Nat) : Int) PX12_init 64 kd3 ln3 m3) : LINV (upK kd3 ((100 : Nat) : Int) 21) (upL ln3 ((100 : Nat) : Int) 1) (newA 0 m3 ((100 : Nat) : Int)) 101 := by
  obtain ⟨hK1, hR1, ⟨n30, n31, n32, n33, n34, n35, n51⟩, hB1, hL1, h41, h61, -⟩ := hH
  obtain ⟨j1, j2, j3⟩ := hJ
  obtain ⟨kd, hkd⟩ : ∃ q : Int → Nat, q = upK kd3 ((100 : Nat) : Int) 21 := ⟨_, rfl⟩
  obtain ⟨ln, hln⟩ : ∃ q : Int → Int, q = upL ln3 ((100 : Nat) : Int) 1 := ⟨_, rfl⟩
  obtain ⟨m, hm⟩ : ∃ q : Int → Int → Int, q = newA 0 m3 ((100 : Nat) : Int) := ⟨_, rfl⟩
  rw [← hkd, ← hln, ← hm]
  have e0 : ∀ a j : Int, a < 100 → m a j = m3 a j := fun a j q => by rw [hm]; exact if_neg (by omega)
  have ek : ∀ a : Int, a < 100 → kd a = kd3 a := fun a q => by rw [hkd]; exact if_neg (by omega)
  have el : ∀ a : Int, a < 100 → ln a = ln3 a := fun a q => by rw [hln]; exact if_neg (by omega)
  have e1 : ∀ a j : Int, a < 35 → m a j = m1 a j := fun a j q => by
    rw [e0 a j (by omega), j2 a j (by omega) (by omega), s2_a (by omega), s2_a (by omega)]
    exact if_neg (by omega)
  have k1 : ∀ a : Int, a < 35 → kd a = kd1 a ∧ ln a = ln1 a := fun a q => by
    have w := hE.2 a (by omega)
    rw [ek a (by omega), el a (by omega), w.1, w.2]
    exact ⟨if_neg (by omega), rfl⟩
  have hr : ∀ a j : Int, 36 ≤ a → a ≤ 99 → m a j = 0 := fun a j q1 q2 => by
    have ht : (a - 36).toNat < 64 := by omega
    have hs := px_T (a - 36).toNat (List.mem_range.mpr ht)
    obtain ⟨w, hw⟩ := Option.isSome_iff_exists.mp hs
    have g := (j1 (a - 36).toNat ht w hw).2.2.2 j
    rw [show ((36 : Nat) : Int) + (((a - 36).toNat : Nat) : Int) = a by omega] at g
    rw [e0 a j (by omega)]
    exact g
  have h35 : ∀ K : Int, (∀ t ∈ List.range 64, (PX12_init[t]?).map Prod.fst ≠ some K) → K ≠ 2 → K ≠ 89 → dfl 13 K.toNat = 0 → m 35 K = 0 := fun K u1 u2 u3 u4 => by
    rw [e0 35 K (by omega), j3 K (fun t ht => u1 t (List.mem_range.mpr ht)), s2_k u3, s2_k u2]
    exact (if_pos rfl).trans u4
  have z0 : m 35 0 = 0 := h35 0 (by decide +kernel) (by decide) (by decide) (by decide +kernel)
  have z6 : m 35 6 = 0 := h35 6 (by decide +kernel) (by decide) (by decide) (by decide +kernel)
  have z11 : m 35 11 = 0 := h35 11 (by decide +kernel) (by decide) (by decide) (by decide +kernel)
  have z16 : m 35 16 = 0 := h35 16 (by decide +kernel) (by decide) (by decide) (by decide +kernel)
  have z33 : m 35 33 = 0 := h35 33 (by decide +kernel) (by decide) (by decide) (by decide +kernel)
  have z45 : m 35 45 = 0 := h35 45 (by decide +kernel) (by decide) (by decide) (by decide +kernel)
  have z46 : m 35 46 = 0 := h35 46 (by decide +kernel) (by decide) (by decide) (by decide +kernel)
  have z65 : m 35 65 = 0 := h35 65 (by decide +kernel) (by decide) (by decide) (by decide +kernel)
  have z72 : m 35 72 = 0 := h35 72 (by decide +kernel) (by decide) (by decide) (by decide +kernel)
  have z79 : m 35 79 = 0 := h35 79 (by decide +kernel) (by decide) (by decide) (by decide +kernel)
  have z80 : m 35 80 = 0 := h35 80 (by decide +kernel) (by decide) (by decide) (by decide +kernel)
  have z84 : m 35 84 = 0 := h35 84 (by decide +kernel) (by decide) (by decide) (by decide +kernel)
  have z88 : m 35 88 = 0 := h35 88 (by decide +kernel) (by decide) (by decide) (by decide +kernel)
  have z2 : m 35 2 = -1 := by
    have u1 : ∀ t ∈ List.range 64, (PX12_init[t]?).map Prod.fst ≠ some 2 := by decide +kernel
    rw [e0 35 2 (by omega), j3 2 (fun t ht => u1 t (List.mem_range.mpr ht)), s2_k (by decide), s2_s]
  have z89 : m 35 89 = 10 := by
    have u1 : ∀ t ∈ List.range 64, (PX12_init[t]?).map Prod.fst ≠ some 89 := by decide +kernel
    rw [e0 35 89 (by omega), j3 89 (fun t ht => u1 t (List.mem_range.mpr ht)), s2_s]
  have hSK : SK kd ln := by
    refine ⟨?_, fun p hp => ?_⟩
    · have w := hE.2 35 (by omega)
      rw [ek 35 (by omega), w.1]
      exact if_pos rfl
    · obtain ⟨t, ht, u1, u2⟩ := sm_K p hp
      have ht' := List.mem_range.mp ht
      obtain ⟨w, hw, hw2⟩ := Option.map_eq_some_iff.mp u1
      have g := j1 t ht' w hw
      rw [u2, ek _ (by omega), el _ (by omega)]
      rw [show ((36 : Nat) : Int) = 36 from rfl] at g
      rw [g.2.1, g.2.2.1, ← hw2]
      exact ⟨rfl, rfl⟩
  have hSR : SR m := fun p hp => by
    obtain ⟨t, ht, u1, u2⟩ := sm_P p hp
    have ht' := List.mem_range.mp ht
    obtain ⟨w, hw, hw2⟩ := Option.map_eq_some_iff.mp u1
    have g := (j1 t ht' w hw).1
    rw [e0 35 _ (by omega), ← hw2, g, u2]
    rfl
  have hHK : HK kd ln := by
    refine ⟨fun p hp => ?_, fun p hp => ?_⟩
    · have hq : ∀ p ∈ hkO, p.1 < 35 := by decide +kernel
      rw [(k1 p.1 (hq p hp)).1]
      exact hK1.1 p hp
    · have hq : ∀ p ∈ hkA, p.1 < 35 := by decide +kernel
      rw [(k1 p.1 (hq p hp)).1, (k1 p.1 (hq p hp)).2]
      exact hK1.2 p hp
  have hHR : HR m := hR1.of (fun a k q => e1 a k (by omega))
  have hEB : EB m := by
    unfold EB at *
    rw [e1 7 3 (by decide), e1 7 4 (by decide), e1 7 5 (by decide)]
    exact hB1
  have hMI : MI m := by
    refine ⟨by rw [z0]; decide, by rw [z2, z0]; decide, ⟨by rw [z6]; decide, by rw [z6]; decide, fun f q1 q2 => by rw [z6] at q2; omega⟩, ⟨by rw [z11]; decide, by rw [z11]; decide, fun i q1 q2 => by rw [hr 39 i (by decide) (by decide)]; decide⟩, by rw [z16]; decide, ⟨by rw [z33]; decide, by rw [z33]; decide, fun p q1 q2 => by rw [z33] at q2; omega⟩, fun p q1 q2 => by rw [z33] at q2; omega, ⟨by rw [z45]; decide, by rw [z45]; decide, fun p q1 q2 => by rw [z45] at q2; omega⟩, fun p n q1 q2 q3 q4 => by rw [hr 47 p (by decide) (by decide)] at q4; omega, fun p n q1 q2 q3 q4 => by rw [hr 47 p (by decide) (by decide)] at q4; omega, ⟨by rw [z65]; decide, by rw [z65]; decide, fun p q1 q2 => by rw [z65] at q2; omega⟩, fun k q1 q2 => by rw [z65] at q2; omega, ⟨by rw [z72]; decide, by rw [z72]; decide, fun p q1 q2 => by rw [z72] at q2; omega⟩, fun k q1 q2 => by rw [z72] at q2; omega, fun i k q1 q2 q3 => by rw [z72] at q3; omega, fun p q1 q2 => by rw [hr 82 p (by decide) (by decide)]; decide, fun p q1 q2 => hr 82 p (by decide) (by decide), fun i q1 q2 => by rw [hr 83 i (by decide) (by decide)]; decide, ⟨by rw [z79]; decide, by rw [z79]; decide, fun p q1 q2 => by rw [z79] at q2; omega⟩, ⟨by rw [z80]; decide, by rw [z80]; decide, fun p q1 q2 => by rw [z80] at q2; omega⟩, ⟨by rw [z84]; decide, by rw [z84]; decide, fun p q1 q2 => by rw [z84] at q2; omega⟩, fun i q1 q2 => by rw [hr 96 i (by decide) (by decide)]; decide, fun i q1 q2 => hr 96 i (by decide) (by decide), ⟨by rw [z88]; decide, by rw [z88]; decide, fun s q1 q2 => by rw [hr 97 s (by decide) (by decide), hr 98 s (by decide) (by decide)]; decide⟩, fun i q1 q2 => hr 98 i (by decide) (by decide), fun i q1 q2 => hr 99 i (by decide) (by decide), by rw [z46]; decide, by rw [z89]; decide⟩
  have k1' : kd 1 = 23 ∧ ln 1 = 0 := hHK.2 (1, 23, 0) (by decide +kernel)
  have hLm : ∀ a : Int, 27 ≤ a → a ≤ 34 → m a 1 = 1 ∧ m a 2 = 0 := fun a q1 q2 => by
    rw [e1 a 1 (by omega), e1 a 2 (by omega)]
    exact (hL1 a q1 q2).2
  have hRN : RN m m := by
    refine ⟨⟨?_, ?_, ?_, ?_, ?_, ?_⟩, fun x y q1 q2 q3 q4 => ?_, ?_, funext fun j => ?_, fun j q => ?_⟩
    · rw [e1 3 0 (by decide), n30, z0]
    · rw [e1 3 1 (by decide), n31, z2]
    · rw [e1 3 2 (by decide), n32, z46]
    · rw [e1 3 3 (by decide), n33, z89]
    · rw [e1 3 4 (by decide), n34, z72]
    · rw [e1 3 5 (by decide), n35, z65]
    · rw [e1 4 _ (by decide), h41 _ (by omega) (by omega)]
      unfold leftV
      rw [z65]
      show -1 = leftW m (-1)
      unfold leftW
      rw [if_pos rfl]
    · rw [e1 5 1 (by decide), n51, z11]
    · rw [e1 6 j (by decide), h61 j, hr 39 j (by decide) (by decide)]
    · rw [e1 6 j (by decide), h61 j]
  have hk100 : kd 100 = 21 ∧ ln 100 = 1 := by
    rw [hkd, hln]
    exact ⟨if_pos rfl, if_pos rfl⟩
  refine ⟨⟨fun _ => 0, ⟨⟨hSK, hHK, hSR, hHR, Nat.le_refl _, hEB⟩, hMI, ⟨hRN, ?_, ?_, ?_, ?_, ?_, ?_, ?_, ?_⟩⟩, fun p q1 q2 => hr 47 p (by decide) (by decide)⟩, hk100⟩
  · exact LSG.zero (Nat.le_refl _) (by decide) (hHK.1 (27, 1) (by decide +kernel)) k1' (hLm 27 (by decide) (by decide)) z6
  · exact LSG.zero (Nat.le_refl _) (by decide) (hHK.1 (28, 1) (by decide +kernel)) k1' (hLm 28 (by decide) (by decide)) z16
  · exact LSG.zero (Nat.le_refl _) (by decide) (hHK.1 (29, 1) (by decide +kernel)) k1' (hLm 29 (by decide) (by decide)) z33
  · exact LSG.zero (Nat.le_refl _) (by decide) (hHK.1 (30, 1) (by decide +kernel)) k1' (hLm 30 (by decide) (by decide)) z45
  · exact LSG.zero (Nat.le_refl _) (by decide) (hHK.1 (31, 1) (by decide +kernel)) k1' (hLm 31 (by decide) (by decide)) z79
  · exact LSG.zero (Nat.le_refl _) (by decide) (hHK.1 (32, 1) (by decide +kernel)) k1' (hLm 32 (by decide) (by decide)) z84
  · exact LSG.zero (Nat.le_refl _) (by decide) (hHK.1 (33, 1) (by decide +kernel)) k1' (hLm 33 (by decide) (by decide)) z80
  · exact LSG.zero (Nat.le_refl _) (by decide) (hHK.1 (34, 1) (by decide +kernel)) k1' (hLm 34 (by decide) (by decide)) z88
end INIT0
