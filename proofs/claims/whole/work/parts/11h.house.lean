section HOUSEK
/-! the house stands at 3, its parts behind it -/
def hkO : List (Int × Nat) := [(3, 13), (5, 12), (7, 7), (8, 12), (10, 4), (14, 8), (22, 6), (27, 1), (28, 1), (29, 1), (30, 1), (31, 1), (32, 1), (33, 1), (34, 1)]
def hkA : List (Int × Nat × Int) := [(0, 21, 13), (1, 23, 0), (4, 20, 64), (6, 20, 160), (9, 20, 0), (11, 21, 40), (12, 21, 200), (13, 21, 200), (15, 21, 40), (16, 20, 4), (17, 20, 4), (18, 21, 4), (19, 20, 4), (20, 20, 4), (21, 21, 4), (23, 21, 40), (24, 21, 280), (25, 20, 40), (26, 21, 5)]
def hrL : List (Int × Int × Int) := [(3, 6, 4), (3, 7, 5), (3, 8, 7), (3, 9, 10), (3, 10, 14), (3, 11, 22), (3, 12, 27), (3, 13, 28), (3, 14, 29), (3, 15, 30), (3, 16, 31), (3, 17, 32), (3, 18, 33), (3, 19, 34), (5, 0, 6), (8, 0, 9), (10, 0, 11), (10, 1, 12), (10, 2, 13), (14, 0, 15), (14, 1, 16), (14, 2, 17), (14, 3, 18), (14, 4, 19), (14, 5, 20), (14, 6, 21), (22, 0, 23), (22, 1, 24), (22, 2, 25), (22, 3, 26)]
def HK (kd : Int → Nat) (ln : Int → Int) : Prop := (∀ p ∈ hkO, kd p.1 = p.2) ∧ ∀ p ∈ hkA, kd p.1 = p.2.1 ∧ ln p.1 = p.2.2
def HR (mem : Int → Int → Int) : Prop := (∀ p ∈ hrL, mem p.1 p.2.1 = p.2.2) ∧ ∀ j : Int, 0 ≤ j → j < 13 → mem 0 j = 10 ^ j.toNat
theorem HK.k3 {kd : Int → Nat} {ln : Int → Int} (h : HK kd ln) : kd 3 = 13 := h.1 (3, 13) (List.mem_of_getElem? (i := 0) rfl)
theorem HK.k5 {kd : Int → Nat} {ln : Int → Int} (h : HK kd ln) : kd 5 = 12 := h.1 (5, 12) (List.mem_of_getElem? (i := 1) rfl)
theorem HK.k7 {kd : Int → Nat} {ln : Int → Int} (h : HK kd ln) : kd 7 = 7 := h.1 (7, 7) (List.mem_of_getElem? (i := 2) rfl)
theorem HK.k8 {kd : Int → Nat} {ln : Int → Int} (h : HK kd ln) : kd 8 = 12 := h.1 (8, 12) (List.mem_of_getElem? (i := 3) rfl)
theorem HK.k10 {kd : Int → Nat} {ln : Int → Int} (h : HK kd ln) : kd 10 = 4 := h.1 (10, 4) (List.mem_of_getElem? (i := 4) rfl)
theorem HK.k14 {kd : Int → Nat} {ln : Int → Int} (h : HK kd ln) : kd 14 = 8 := h.1 (14, 8) (List.mem_of_getElem? (i := 5) rfl)
theorem HK.k22 {kd : Int → Nat} {ln : Int → Int} (h : HK kd ln) : kd 22 = 6 := h.1 (22, 6) (List.mem_of_getElem? (i := 6) rfl)
theorem HK.k27 {kd : Int → Nat} {ln : Int → Int} (h : HK kd ln) : kd 27 = 1 := h.1 (27, 1) (List.mem_of_getElem? (i := 7) rfl)
theorem HK.k28 {kd : Int → Nat} {ln : Int → Int} (h : HK kd ln) : kd 28 = 1 := h.1 (28, 1) (List.mem_of_getElem? (i := 8) rfl)
theorem HK.k29 {kd : Int → Nat} {ln : Int → Int} (h : HK kd ln) : kd 29 = 1 := h.1 (29, 1) (List.mem_of_getElem? (i := 9) rfl)
theorem HK.k30 {kd : Int → Nat} {ln : Int → Int} (h : HK kd ln) : kd 30 = 1 := h.1 (30, 1) (List.mem_of_getElem? (i := 10) rfl)
theorem HK.k31 {kd : Int → Nat} {ln : Int → Int} (h : HK kd ln) : kd 31 = 1 := h.1 (31, 1) (List.mem_of_getElem? (i := 11) rfl)
theorem HK.k32 {kd : Int → Nat} {ln : Int → Int} (h : HK kd ln) : kd 32 = 1 := h.1 (32, 1) (List.mem_of_getElem? (i := 12) rfl)
theorem HK.k33 {kd : Int → Nat} {ln : Int → Int} (h : HK kd ln) : kd 33 = 1 := h.1 (33, 1) (List.mem_of_getElem? (i := 13) rfl)
theorem HK.k34 {kd : Int → Nat} {ln : Int → Int} (h : HK kd ln) : kd 34 = 1 := h.1 (34, 1) (List.mem_of_getElem? (i := 14) rfl)
theorem HK.k0 {kd : Int → Nat} {ln : Int → Int} (h : HK kd ln) : kd 0 = 21 := (h.2 (0, 21, 13) (List.mem_of_getElem? (i := 0) rfl)).1
theorem HK.l0 {kd : Int → Nat} {ln : Int → Int} (h : HK kd ln) : ln 0 = 13 := (h.2 (0, 21, 13) (List.mem_of_getElem? (i := 0) rfl)).2
theorem HK.k1 {kd : Int → Nat} {ln : Int → Int} (h : HK kd ln) : kd 1 = 23 := (h.2 (1, 23, 0) (List.mem_of_getElem? (i := 1) rfl)).1
theorem HK.l1 {kd : Int → Nat} {ln : Int → Int} (h : HK kd ln) : ln 1 = 0 := (h.2 (1, 23, 0) (List.mem_of_getElem? (i := 1) rfl)).2
theorem HK.k4 {kd : Int → Nat} {ln : Int → Int} (h : HK kd ln) : kd 4 = 20 := (h.2 (4, 20, 64) (List.mem_of_getElem? (i := 2) rfl)).1
theorem HK.l4 {kd : Int → Nat} {ln : Int → Int} (h : HK kd ln) : ln 4 = 64 := (h.2 (4, 20, 64) (List.mem_of_getElem? (i := 2) rfl)).2
theorem HK.k6 {kd : Int → Nat} {ln : Int → Int} (h : HK kd ln) : kd 6 = 20 := (h.2 (6, 20, 160) (List.mem_of_getElem? (i := 3) rfl)).1
theorem HK.l6 {kd : Int → Nat} {ln : Int → Int} (h : HK kd ln) : ln 6 = 160 := (h.2 (6, 20, 160) (List.mem_of_getElem? (i := 3) rfl)).2
theorem HK.k9 {kd : Int → Nat} {ln : Int → Int} (h : HK kd ln) : kd 9 = 20 := (h.2 (9, 20, 0) (List.mem_of_getElem? (i := 4) rfl)).1
theorem HK.l9 {kd : Int → Nat} {ln : Int → Int} (h : HK kd ln) : ln 9 = 0 := (h.2 (9, 20, 0) (List.mem_of_getElem? (i := 4) rfl)).2
theorem HK.k11 {kd : Int → Nat} {ln : Int → Int} (h : HK kd ln) : kd 11 = 21 := (h.2 (11, 21, 40) (List.mem_of_getElem? (i := 5) rfl)).1
theorem HK.l11 {kd : Int → Nat} {ln : Int → Int} (h : HK kd ln) : ln 11 = 40 := (h.2 (11, 21, 40) (List.mem_of_getElem? (i := 5) rfl)).2
theorem HK.k12 {kd : Int → Nat} {ln : Int → Int} (h : HK kd ln) : kd 12 = 21 := (h.2 (12, 21, 200) (List.mem_of_getElem? (i := 6) rfl)).1
theorem HK.l12 {kd : Int → Nat} {ln : Int → Int} (h : HK kd ln) : ln 12 = 200 := (h.2 (12, 21, 200) (List.mem_of_getElem? (i := 6) rfl)).2
theorem HK.k13 {kd : Int → Nat} {ln : Int → Int} (h : HK kd ln) : kd 13 = 21 := (h.2 (13, 21, 200) (List.mem_of_getElem? (i := 7) rfl)).1
theorem HK.l13 {kd : Int → Nat} {ln : Int → Int} (h : HK kd ln) : ln 13 = 200 := (h.2 (13, 21, 200) (List.mem_of_getElem? (i := 7) rfl)).2
theorem HK.k15 {kd : Int → Nat} {ln : Int → Int} (h : HK kd ln) : kd 15 = 21 := (h.2 (15, 21, 40) (List.mem_of_getElem? (i := 8) rfl)).1
theorem HK.l15 {kd : Int → Nat} {ln : Int → Int} (h : HK kd ln) : ln 15 = 40 := (h.2 (15, 21, 40) (List.mem_of_getElem? (i := 8) rfl)).2
theorem HK.k16 {kd : Int → Nat} {ln : Int → Int} (h : HK kd ln) : kd 16 = 20 := (h.2 (16, 20, 4) (List.mem_of_getElem? (i := 9) rfl)).1
theorem HK.l16 {kd : Int → Nat} {ln : Int → Int} (h : HK kd ln) : ln 16 = 4 := (h.2 (16, 20, 4) (List.mem_of_getElem? (i := 9) rfl)).2
theorem HK.k17 {kd : Int → Nat} {ln : Int → Int} (h : HK kd ln) : kd 17 = 20 := (h.2 (17, 20, 4) (List.mem_of_getElem? (i := 10) rfl)).1
theorem HK.l17 {kd : Int → Nat} {ln : Int → Int} (h : HK kd ln) : ln 17 = 4 := (h.2 (17, 20, 4) (List.mem_of_getElem? (i := 10) rfl)).2
theorem HK.k18 {kd : Int → Nat} {ln : Int → Int} (h : HK kd ln) : kd 18 = 21 := (h.2 (18, 21, 4) (List.mem_of_getElem? (i := 11) rfl)).1
theorem HK.l18 {kd : Int → Nat} {ln : Int → Int} (h : HK kd ln) : ln 18 = 4 := (h.2 (18, 21, 4) (List.mem_of_getElem? (i := 11) rfl)).2
theorem HK.k19 {kd : Int → Nat} {ln : Int → Int} (h : HK kd ln) : kd 19 = 20 := (h.2 (19, 20, 4) (List.mem_of_getElem? (i := 12) rfl)).1
theorem HK.l19 {kd : Int → Nat} {ln : Int → Int} (h : HK kd ln) : ln 19 = 4 := (h.2 (19, 20, 4) (List.mem_of_getElem? (i := 12) rfl)).2
theorem HK.k20 {kd : Int → Nat} {ln : Int → Int} (h : HK kd ln) : kd 20 = 20 := (h.2 (20, 20, 4) (List.mem_of_getElem? (i := 13) rfl)).1
theorem HK.l20 {kd : Int → Nat} {ln : Int → Int} (h : HK kd ln) : ln 20 = 4 := (h.2 (20, 20, 4) (List.mem_of_getElem? (i := 13) rfl)).2
theorem HK.k21 {kd : Int → Nat} {ln : Int → Int} (h : HK kd ln) : kd 21 = 21 := (h.2 (21, 21, 4) (List.mem_of_getElem? (i := 14) rfl)).1
theorem HK.l21 {kd : Int → Nat} {ln : Int → Int} (h : HK kd ln) : ln 21 = 4 := (h.2 (21, 21, 4) (List.mem_of_getElem? (i := 14) rfl)).2
theorem HK.k23 {kd : Int → Nat} {ln : Int → Int} (h : HK kd ln) : kd 23 = 21 := (h.2 (23, 21, 40) (List.mem_of_getElem? (i := 15) rfl)).1
theorem HK.l23 {kd : Int → Nat} {ln : Int → Int} (h : HK kd ln) : ln 23 = 40 := (h.2 (23, 21, 40) (List.mem_of_getElem? (i := 15) rfl)).2
theorem HK.k24 {kd : Int → Nat} {ln : Int → Int} (h : HK kd ln) : kd 24 = 21 := (h.2 (24, 21, 280) (List.mem_of_getElem? (i := 16) rfl)).1
theorem HK.l24 {kd : Int → Nat} {ln : Int → Int} (h : HK kd ln) : ln 24 = 280 := (h.2 (24, 21, 280) (List.mem_of_getElem? (i := 16) rfl)).2
theorem HK.k25 {kd : Int → Nat} {ln : Int → Int} (h : HK kd ln) : kd 25 = 20 := (h.2 (25, 20, 40) (List.mem_of_getElem? (i := 17) rfl)).1
theorem HK.l25 {kd : Int → Nat} {ln : Int → Int} (h : HK kd ln) : ln 25 = 40 := (h.2 (25, 20, 40) (List.mem_of_getElem? (i := 17) rfl)).2
theorem HK.k26 {kd : Int → Nat} {ln : Int → Int} (h : HK kd ln) : kd 26 = 21 := (h.2 (26, 21, 5) (List.mem_of_getElem? (i := 18) rfl)).1
theorem HK.l26 {kd : Int → Nat} {ln : Int → Int} (h : HK kd ln) : ln 26 = 5 := (h.2 (26, 21, 5) (List.mem_of_getElem? (i := 18) rfl)).2
theorem HR.r3_6 {mem : Int → Int → Int} (h : HR mem) : mem 3 6 = 4 := h.1 (3, 6, 4) (List.mem_of_getElem? (i := 0) rfl)
theorem HR.r3_7 {mem : Int → Int → Int} (h : HR mem) : mem 3 7 = 5 := h.1 (3, 7, 5) (List.mem_of_getElem? (i := 1) rfl)
theorem HR.r3_8 {mem : Int → Int → Int} (h : HR mem) : mem 3 8 = 7 := h.1 (3, 8, 7) (List.mem_of_getElem? (i := 2) rfl)
theorem HR.r3_9 {mem : Int → Int → Int} (h : HR mem) : mem 3 9 = 10 := h.1 (3, 9, 10) (List.mem_of_getElem? (i := 3) rfl)
theorem HR.r3_10 {mem : Int → Int → Int} (h : HR mem) : mem 3 10 = 14 := h.1 (3, 10, 14) (List.mem_of_getElem? (i := 4) rfl)
theorem HR.r3_11 {mem : Int → Int → Int} (h : HR mem) : mem 3 11 = 22 := h.1 (3, 11, 22) (List.mem_of_getElem? (i := 5) rfl)
theorem HR.r3_12 {mem : Int → Int → Int} (h : HR mem) : mem 3 12 = 27 := h.1 (3, 12, 27) (List.mem_of_getElem? (i := 6) rfl)
theorem HR.r3_13 {mem : Int → Int → Int} (h : HR mem) : mem 3 13 = 28 := h.1 (3, 13, 28) (List.mem_of_getElem? (i := 7) rfl)
theorem HR.r3_14 {mem : Int → Int → Int} (h : HR mem) : mem 3 14 = 29 := h.1 (3, 14, 29) (List.mem_of_getElem? (i := 8) rfl)
theorem HR.r3_15 {mem : Int → Int → Int} (h : HR mem) : mem 3 15 = 30 := h.1 (3, 15, 30) (List.mem_of_getElem? (i := 9) rfl)
theorem HR.r3_16 {mem : Int → Int → Int} (h : HR mem) : mem 3 16 = 31 := h.1 (3, 16, 31) (List.mem_of_getElem? (i := 10) rfl)
theorem HR.r3_17 {mem : Int → Int → Int} (h : HR mem) : mem 3 17 = 32 := h.1 (3, 17, 32) (List.mem_of_getElem? (i := 11) rfl)
theorem HR.r3_18 {mem : Int → Int → Int} (h : HR mem) : mem 3 18 = 33 := h.1 (3, 18, 33) (List.mem_of_getElem? (i := 12) rfl)
theorem HR.r3_19 {mem : Int → Int → Int} (h : HR mem) : mem 3 19 = 34 := h.1 (3, 19, 34) (List.mem_of_getElem? (i := 13) rfl)
theorem HR.r5_0 {mem : Int → Int → Int} (h : HR mem) : mem 5 0 = 6 := h.1 (5, 0, 6) (List.mem_of_getElem? (i := 14) rfl)
theorem HR.r8_0 {mem : Int → Int → Int} (h : HR mem) : mem 8 0 = 9 := h.1 (8, 0, 9) (List.mem_of_getElem? (i := 15) rfl)
theorem HR.r10_0 {mem : Int → Int → Int} (h : HR mem) : mem 10 0 = 11 := h.1 (10, 0, 11) (List.mem_of_getElem? (i := 16) rfl)
theorem HR.r10_1 {mem : Int → Int → Int} (h : HR mem) : mem 10 1 = 12 := h.1 (10, 1, 12) (List.mem_of_getElem? (i := 17) rfl)
theorem HR.r10_2 {mem : Int → Int → Int} (h : HR mem) : mem 10 2 = 13 := h.1 (10, 2, 13) (List.mem_of_getElem? (i := 18) rfl)
theorem HR.r14_0 {mem : Int → Int → Int} (h : HR mem) : mem 14 0 = 15 := h.1 (14, 0, 15) (List.mem_of_getElem? (i := 19) rfl)
theorem HR.r14_1 {mem : Int → Int → Int} (h : HR mem) : mem 14 1 = 16 := h.1 (14, 1, 16) (List.mem_of_getElem? (i := 20) rfl)
theorem HR.r14_2 {mem : Int → Int → Int} (h : HR mem) : mem 14 2 = 17 := h.1 (14, 2, 17) (List.mem_of_getElem? (i := 21) rfl)
theorem HR.r14_3 {mem : Int → Int → Int} (h : HR mem) : mem 14 3 = 18 := h.1 (14, 3, 18) (List.mem_of_getElem? (i := 22) rfl)
theorem HR.r14_4 {mem : Int → Int → Int} (h : HR mem) : mem 14 4 = 19 := h.1 (14, 4, 19) (List.mem_of_getElem? (i := 23) rfl)
theorem HR.r14_5 {mem : Int → Int → Int} (h : HR mem) : mem 14 5 = 20 := h.1 (14, 5, 20) (List.mem_of_getElem? (i := 24) rfl)
theorem HR.r14_6 {mem : Int → Int → Int} (h : HR mem) : mem 14 6 = 21 := h.1 (14, 6, 21) (List.mem_of_getElem? (i := 25) rfl)
theorem HR.r22_0 {mem : Int → Int → Int} (h : HR mem) : mem 22 0 = 23 := h.1 (22, 0, 23) (List.mem_of_getElem? (i := 26) rfl)
theorem HR.r22_1 {mem : Int → Int → Int} (h : HR mem) : mem 22 1 = 24 := h.1 (22, 1, 24) (List.mem_of_getElem? (i := 27) rfl)
theorem HR.r22_2 {mem : Int → Int → Int} (h : HR mem) : mem 22 2 = 25 := h.1 (22, 2, 25) (List.mem_of_getElem? (i := 28) rfl)
theorem HR.r22_3 {mem : Int → Int → Int} (h : HR mem) : mem 22 3 = 26 := h.1 (22, 3, 26) (List.mem_of_getElem? (i := 29) rfl)
theorem HR.of {mem mm : Int → Int → Int} (h : HR mem) (he : ∀ a k : Int, ((a = 3 ∧ 6 ≤ k) ∨ (a = 5 ∧ k = 0) ∨ (a = 8 ∧ k = 0) ∨ a = 10 ∨ (a = 14 ∧ k ≤ 6) ∨ (a = 22 ∧ k ≤ 3) ∨ a = 0) → mm a k = mem a k) : HR mm := by
  refine ⟨fun p hp => ?_, fun j h1 h2 => by rw [he 0 j (by omega)]; exact h.2 j h1 h2⟩
  have hq : ∀ p ∈ hrL, ((p.1 = 3 ∧ 6 ≤ p.2.1) ∨ (p.1 = 5 ∧ p.2.1 = 0) ∨ (p.1 = 8 ∧ p.2.1 = 0) ∨ p.1 = 10 ∨ (p.1 = 14 ∧ p.2.1 ≤ 6) ∨ (p.1 = 22 ∧ p.2.1 ≤ 3) ∨ p.1 = 0) := by decide
  rw [he _ _ (hq p hp)]
  exact h.1 p hp
theorem HR.s {mem : Int → Int → Int} (h : HR mem) {a k v : Int} (hn : ¬ ((a = 3 ∧ 6 ≤ k) ∨ (a = 5 ∧ k = 0) ∨ (a = 8 ∧ k = 0) ∨ a = 10 ∨ (a = 14 ∧ k ≤ 6) ∨ (a = 22 ∧ k ≤ 3) ∨ a = 0)) : HR (set2 mem a k v) := h.of (fun b j hb => by unfold set2; rw [if_neg (fun q => hn (by rw [← q.1, ← q.2]; exact hb))])
/-- cells made since: kinds and lengths of the old ones stay -/
def EXT (kd : Int → Nat) (ln : Int → Int) (sz : Nat) (kd' : Int → Nat) (ln' : Int → Int) (sz' : Nat) : Prop := sz ≤ sz' ∧ ∀ a : Int, a < sz → kd' a = kd a ∧ ln' a = ln a
theorem EXT.rf {kd : Int → Nat} {ln : Int → Int} {sz : Nat} : EXT kd ln sz kd ln sz := ⟨Nat.le_refl _, fun _ _ => ⟨rfl, rfl⟩⟩
theorem EXT.tr {kd kd1 kd2 : Int → Nat} {ln ln1 ln2 : Int → Int} {sz sz1 sz2 : Nat} (h : EXT kd ln sz kd1 ln1 sz1) (h' : EXT kd1 ln1 sz1 kd2 ln2 sz2) : EXT kd ln sz kd2 ln2 sz2 := ⟨Nat.le_trans h.1 h'.1, fun a ha => by
  have h1 := h.2 a ha
  have h2 := h'.2 a (by have := h.1; omega)
  exact ⟨h2.1.trans h1.1, h2.2.trans h1.2⟩⟩
theorem EXT.k {kd : Int → Nat} {ln : Int → Int} {sz : Nat} (v : Nat) : EXT kd ln sz (upK kd sz v) ln (sz + 1) := ⟨by omega, fun a ha => ⟨if_neg (by omega), rfl⟩⟩
theorem EXT.a {kd : Int → Nat} {ln : Int → Int} {sz : Nat} (v : Nat) (n : Int) : EXT kd ln sz (upK kd sz v) (upL ln sz n) (sz + 1) := ⟨by omega, fun a ha => ⟨if_neg (by omega), if_neg (by omega)⟩⟩
theorem HK.ext {kd kd' : Int → Nat} {ln ln' : Int → Int} {sz sz' : Nat} (h : HK kd ln) (he : EXT kd ln sz kd' ln' sz') (hs : 35 ≤ sz) : HK kd' ln' := by
  have h1 : ∀ p ∈ hkO, p.1 < 35 := by decide
  have h2 : ∀ p ∈ hkA, p.1 < 35 := by decide
  refine ⟨fun p hp => ?_, fun p hp => ?_⟩
  · rw [(he.2 p.1 (by have := h1 p hp; omega)).1]; exact h.1 p hp
  · have q := he.2 p.1 (by have := h2 p hp; omega)
    rw [q.1, q.2]; exact h.2 p hp
/-- posts of methods that make cells -/
def pXV (P : (Int → Nat) → (Int → Int) → (Int → Int → Int) → Nat → Prop) (kd : Int → Nat) (ln : Int → Int) (sz : Nat) : PT := fun r kd' ln' mem' sz' => r = none ∧ EXT kd ln sz kd' ln' sz' ∧ P kd' ln' mem' sz'
def pXR (t : Nat) (P : Int → (Int → Nat) → (Int → Int) → (Int → Int → Int) → Nat → Prop) (kd : Int → Nat) (ln : Int → Int) (sz : Nat) : PT := fun r kd' ln' mem' sz' => ∃ v : Int, r = some (t, v) ∧ EXT kd ln sz kd' ln' sz' ∧ P v kd' ln' mem' sz'
section KX
variable {z : ZT} {g : GP} {nL : Nat} {cells slots : Nat} {Q : State → Prop} {pc : Nat} {lo : List (Nat × AV)} {rest : List AV} {kd : Int → Nat} {ln : Int → Int} {sz : Nat}
theorem kXV {P : (Int → Nat) → (Int → Int) → (Int → Int → Int) → Nat → Prop} (h : ∀ (kd' : Int → Nat) (ln' : Int → Int) (mem' : Int → Int → Int) (sz' : Nat), EXT kd ln sz kd' ln' sz' → P kd' ln' mem' sz' → J z g nL cells slots Q pc lo rest kd' ln' mem' sz') : ∀ (r : Option AV) (kd' : Int → Nat) (ln' : Int → Int) (mem' : Int → Int → Int) (sz' : Nat), pXV P kd ln sz r kd' ln' mem' sz' → J z g nL cells slots Q pc lo (r.toList ++ rest) kd' ln' mem' sz' := by
  rintro r kd' ln' m sz' ⟨rfl, hE, hP⟩
  exact h kd' ln' m sz' hE hP
theorem kXR {t : Nat} {P : Int → (Int → Nat) → (Int → Int) → (Int → Int → Int) → Nat → Prop} (h : ∀ (v : Int) (kd' : Int → Nat) (ln' : Int → Int) (mem' : Int → Int → Int) (sz' : Nat), EXT kd ln sz kd' ln' sz' → P v kd' ln' mem' sz' → J z g nL cells slots Q pc lo ((t, v) :: rest) kd' ln' mem' sz') : ∀ (r : Option AV) (kd' : Int → Nat) (ln' : Int → Int) (mem' : Int → Int → Int) (sz' : Nat), pXR t P kd ln sz r kd' ln' mem' sz' → J z g nL cells slots Q pc lo (r.toList ++ rest) kd' ln' mem' sz' := by
  rintro r kd' ln' m sz' ⟨v, rfl, hE, hP⟩
  exact h v kd' ln' m sz' hE hP
end KX
theorem newO_s {c : Nat} {mem : Int → Int → Int} {a : Int} (j : Int) : newO c mem a a j = dfl c j.toNat := if_pos rfl
theorem newO_o {c : Nat} {mem : Int → Int → Int} {a b : Int} (j : Int) (h : b ≠ a) : newO c mem a b j = mem b j := if_neg h
theorem newA_s {d : Int} {mem : Int → Int → Int} {a : Int} (j : Int) : newA d mem a a j = d := if_pos rfl
theorem newA_o {d : Int} {mem : Int → Int → Int} {a b : Int} (j : Int) (h : b ≠ a) : newA d mem a b j = mem b j := if_neg h
/-- the statics that are read -/
abbrev TNS (g : GP) : Prop := STA g "FigureHouse" "TENS" "[J" 0
abbrev EMP (g : GP) : Prop := STA g "java/util/ArrayList" "DEFAULTCAPACITY_EMPTY_ELEMENTDATA" "[Ljava/lang/Object;" 1
end HOUSEK
