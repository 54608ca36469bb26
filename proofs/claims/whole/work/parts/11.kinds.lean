section KINDS
theorem s2_s {mem : Int → Int → Int} {a k v : Int} : set2 mem a k v a k = v := if_pos ⟨rfl, rfl⟩
theorem s2_a {mem : Int → Int → Int} {a k v b j : Int} (h : b ≠ a) : set2 mem a k v b j = mem b j := if_neg (fun q => h q.1)
theorem s2_k {mem : Int → Int → Int} {a k v b j : Int} (h : j ≠ k) : set2 mem a k v b j = mem b j := if_neg (fun q => h q.2)
def pB (c : Prop) (kd : Int → Nat) (ln : Int → Int) (mem : Int → Int → Int) (sz : Nat) : PT := fun r kd' ln' mem' sz' => (∃ b : Int, r = some (0, b) ∧ ((b = 1 ∧ c) ∨ (b = 0 ∧ ¬ c))) ∧ kd' = kd ∧ ln' = ln ∧ mem' = mem ∧ sz' = sz
def pV (v : AV) (kd : Int → Nat) (ln : Int → Int) (mem : Int → Int → Int) (sz : Nat) : PT := fun r kd' ln' mem' sz' => r = some v ∧ kd' = kd ∧ ln' = ln ∧ mem' = mem ∧ sz' = sz
def pR (t : Nat) (P : Int → Prop) (kd : Int → Nat) (ln : Int → Int) (mem : Int → Int → Int) (sz : Nat) : PT := fun r kd' ln' mem' sz' => (∃ v : Int, r = some (t, v) ∧ P v) ∧ kd' = kd ∧ ln' = ln ∧ mem' = mem ∧ sz' = sz
/-- the heap's kinds stay, what it holds may change -/
def pM (P : Option AV → (Int → Int → Int) → Prop) (kd : Int → Nat) (ln : Int → Int) (sz : Nat) : PT := fun r kd' ln' mem' sz' => P r mem' ∧ kd' = kd ∧ ln' = ln ∧ sz' = sz
def pMV (P : (Int → Int → Int) → Prop) (kd : Int → Nat) (ln : Int → Int) (sz : Nat) : PT := fun r kd' ln' mem' sz' => r = none ∧ P mem' ∧ kd' = kd ∧ ln' = ln ∧ sz' = sz
def pMR (t : Nat) (P : Int → (Int → Int → Int) → Prop) (kd : Int → Nat) (ln : Int → Int) (sz : Nat) : PT := fun r kd' ln' mem' sz' => (∃ v : Int, r = some (t, v) ∧ P v mem') ∧ kd' = kd ∧ ln' = ln ∧ sz' = sz
def pMB (P : Prop → (Int → Int → Int) → Prop) (kd : Int → Nat) (ln : Int → Int) (sz : Nat) : PT := fun r kd' ln' mem' sz' => (∃ b : Int, r = some (0, b) ∧ ((b = 1 ∧ P True mem') ∨ (b = 0 ∧ P False mem'))) ∧ kd' = kd ∧ ln' = ln ∧ sz' = sz
theorem cst_i {o : String} {i : Nat} {v : Int} {w : Int32} (h : Cond.constant o i w ∈ lw_tbl) (e : w = Int32.ofInt v) : Cond.constant o i (Int32.ofInt v) ∈ lw_tbl := e ▸ h
theorem cst_l {o : String} {i : Nat} {v : Int} {w : Int64} (h : Cond.constantLong o i w ∈ lw_tbl) (e : w = Int64.ofInt v) : Cond.constantLong o i (Int64.ofInt v) ∈ lw_tbl := e ▸ h
section KK
variable {z : ZT} {g : GP} {nL : Nat} {cells slots : Nat} {Q : State → Prop} {pc : Nat} {lo : List (Nat × AV)} {rest : List AV} {kd : Int → Nat} {ln : Int → Int} {mem : Int → Int → Int} {sz : Nat}
theorem kB {c : Prop} (h1 : c → J z g nL cells slots Q pc lo ((0, 1) :: rest) kd ln mem sz) (h0 : ¬ c → J z g nL cells slots Q pc lo ((0, 0) :: rest) kd ln mem sz) : ∀ (r : Option AV) (kd' : Int → Nat) (ln' : Int → Int) (mem' : Int → Int → Int) (sz' : Nat), pB c kd ln mem sz r kd' ln' mem' sz' → J z g nL cells slots Q pc lo (r.toList ++ rest) kd' ln' mem' sz' := by
  rintro r _ _ _ _ ⟨⟨b, rfl, h⟩, rfl, rfl, rfl, rfl⟩
  rcases h with ⟨rfl, h⟩ | ⟨rfl, h⟩
  · exact h1 h
  · exact h0 h
theorem kV {v : AV} (h : J z g nL cells slots Q pc lo (v :: rest) kd ln mem sz) : ∀ (r : Option AV) (kd' : Int → Nat) (ln' : Int → Int) (mem' : Int → Int → Int) (sz' : Nat), pV v kd ln mem sz r kd' ln' mem' sz' → J z g nL cells slots Q pc lo (r.toList ++ rest) kd' ln' mem' sz' := by
  rintro r _ _ _ _ ⟨rfl, rfl, rfl, rfl, rfl⟩
  exact h
theorem kR {t : Nat} {P : Int → Prop} (h : ∀ v : Int, P v → J z g nL cells slots Q pc lo ((t, v) :: rest) kd ln mem sz) : ∀ (r : Option AV) (kd' : Int → Nat) (ln' : Int → Int) (mem' : Int → Int → Int) (sz' : Nat), pR t P kd ln mem sz r kd' ln' mem' sz' → J z g nL cells slots Q pc lo (r.toList ++ rest) kd' ln' mem' sz' := by
  rintro r _ _ _ _ ⟨⟨v, rfl, hv⟩, rfl, rfl, rfl, rfl⟩
  exact h v hv
theorem kMV {P : (Int → Int → Int) → Prop} (h : ∀ mem' : Int → Int → Int, P mem' → J z g nL cells slots Q pc lo rest kd ln mem' sz) : ∀ (r : Option AV) (kd' : Int → Nat) (ln' : Int → Int) (mem' : Int → Int → Int) (sz' : Nat), pMV P kd ln sz r kd' ln' mem' sz' → J z g nL cells slots Q pc lo (r.toList ++ rest) kd' ln' mem' sz' := by
  rintro r _ _ m _ ⟨rfl, hP, rfl, rfl, rfl⟩
  exact h m hP
theorem kMR {t : Nat} {P : Int → (Int → Int → Int) → Prop} (h : ∀ (v : Int) (mem' : Int → Int → Int), P v mem' → J z g nL cells slots Q pc lo ((t, v) :: rest) kd ln mem' sz) : ∀ (r : Option AV) (kd' : Int → Nat) (ln' : Int → Int) (mem' : Int → Int → Int) (sz' : Nat), pMR t P kd ln sz r kd' ln' mem' sz' → J z g nL cells slots Q pc lo (r.toList ++ rest) kd' ln' mem' sz' := by
  rintro r _ _ m _ ⟨⟨v, rfl, hv⟩, rfl, rfl, rfl⟩
  exact h v m hv
theorem kMB {P : Prop → (Int → Int → Int) → Prop} (h1 : ∀ mem' : Int → Int → Int, P True mem' → J z g nL cells slots Q pc lo ((0, 1) :: rest) kd ln mem' sz) (h0 : ∀ mem' : Int → Int → Int, P False mem' → J z g nL cells slots Q pc lo ((0, 0) :: rest) kd ln mem' sz) : ∀ (r : Option AV) (kd' : Int → Nat) (ln' : Int → Int) (mem' : Int → Int → Int) (sz' : Nat), pMB P kd ln sz r kd' ln' mem' sz' → J z g nL cells slots Q pc lo (r.toList ++ rest) kd' ln' mem' sz' := by
  rintro r _ _ m _ ⟨⟨b, rfl, h⟩, rfl, rfl, rfl⟩
  rcases h with ⟨rfl, h⟩ | ⟨rfl, h⟩
  · exact h1 m h
  · exact h0 m h
theorem lB1 {c : Prop} (h : c) : pB c kd ln mem sz (some (0, 1)) kd ln mem sz := ⟨⟨1, rfl, Or.inl ⟨rfl, h⟩⟩, rfl, rfl, rfl, rfl⟩
theorem lB0 {c : Prop} (h : ¬ c) : pB c kd ln mem sz (some (0, 0)) kd ln mem sz := ⟨⟨0, rfl, Or.inr ⟨rfl, h⟩⟩, rfl, rfl, rfl, rfl⟩
theorem lV {t : Nat} {a f : Int} (h : a = f) : pV (t, f) kd ln mem sz (some (t, a)) kd ln mem sz := ⟨by rw [h], rfl, rfl, rfl, rfl⟩
theorem lR {t : Nat} {P : Int → Prop} {a : Int} (h : P a) : pR t P kd ln mem sz (some (t, a)) kd ln mem sz := ⟨⟨a, rfl, h⟩, rfl, rfl, rfl, rfl⟩
theorem lMV {P : (Int → Int → Int) → Prop} (h : P mem) : pMV P kd ln sz none kd ln mem sz := ⟨rfl, h, rfl, rfl, rfl⟩
theorem lMR {t : Nat} {P : Int → (Int → Int → Int) → Prop} {a : Int} (h : P a mem) : pMR t P kd ln sz (some (t, a)) kd ln mem sz := ⟨⟨a, rfl, h⟩, rfl, rfl, rfl⟩
theorem lMB1 {P : Prop → (Int → Int → Int) → Prop} (h : P True mem) : pMB P kd ln sz (some (0, 1)) kd ln mem sz := ⟨⟨1, rfl, Or.inl ⟨rfl, h⟩⟩, rfl, rfl, rfl⟩
theorem lMB0 {P : Prop → (Int → Int → Int) → Prop} (h : P False mem) : pMB P kd ln sz (some (0, 0)) kd ln mem sz := ⟨⟨0, rfl, Or.inr ⟨rfl, h⟩⟩, rfl, rfl, rfl⟩
end KK
def smK : List (Int × Nat × Int) := [(36, 20, 10), (37, 20, 10), (38, 20, 10), (39, 20, 160), (40, 20, 620), (41, 20, 7440), (42, 20, 12), (43, 20, 128), (44, 20, 200), (45, 20, 12), (46, 20, 12), (47, 20, 12), (48, 20, 12), (49, 20, 12), (50, 20, 12), (51, 20, 12), (52, 20, 12), (53, 20, 12), (54, 20, 480), (55, 20, 480), (56, 20, 480), (57, 20, 480), (58, 20, 480), (59, 21, 200), (60, 21, 200), (61, 21, 40), (62, 21, 5), (63, 20, 60), (64, 20, 60), (65, 20, 60), (66, 20, 60), (67, 20, 60), (68, 20, 60), (69, 21, 40), (70, 21, 40), (71, 20, 4), (72, 20, 4), (73, 21, 4), (74, 20, 4), (75, 20, 4), (76, 21, 4), (77, 20, 40), (78, 20, 40), (79, 20, 40), (80, 20, 40), (81, 20, 40), (82, 22, 12), (83, 21, 480), (84, 20, 80), (85, 20, 80), (86, 20, 80), (87, 20, 80), (88, 20, 8), (89, 21, 320), (90, 20, 40), (91, 20, 40), (92, 21, 40), (93, 21, 40), (94, 20, 8), (95, 21, 320), (96, 22, 320), (97, 20, 8), (98, 22, 8), (99, 21, 320)]
def smR : List (Int × Int) := [(3, 36), (4, 37), (5, 38), (7, 39), (8, 40), (9, 41), (10, 42), (17, 43), (18, 44), (20, 45), (21, 46), (22, 47), (23, 48), (24, 49), (25, 50), (26, 51), (27, 52), (28, 53), (29, 54), (30, 55), (31, 56), (32, 57), (34, 58), (35, 59), (36, 60), (37, 61), (38, 62), (39, 63), (40, 64), (41, 65), (42, 66), (43, 67), (44, 68), (47, 69), (48, 70), (49, 71), (50, 72), (51, 73), (52, 74), (53, 75), (54, 76), (60, 77), (61, 78), (62, 79), (63, 80), (64, 81), (66, 82), (67, 83), (68, 84), (69, 85), (70, 86), (71, 87), (73, 88), (74, 89), (75, 90), (76, 91), (77, 92), (78, 93), (81, 94), (82, 95), (83, 96), (85, 97), (86, 98), (87, 99)]
/-- the model stands at 35, its rows behind it -/
def SK (kd : Int → Nat) (ln : Int → Int) : Prop := kd 35 = 14 ∧ ∀ p ∈ smK, kd p.1 = p.2.1 ∧ ln p.1 = p.2.2
def SR (mem : Int → Int → Int) : Prop := ∀ p ∈ smR, mem 35 p.1 = p.2
theorem SK.k35 {kd : Int → Nat} {ln : Int → Int} (h : SK kd ln) : kd 35 = 14 := h.1
theorem SK.k36 {kd : Int → Nat} {ln : Int → Int} (h : SK kd ln) : kd 36 = 20 := (h.2 (36, 20, 10) (List.mem_of_getElem? (i := 0) rfl)).1
theorem SK.l36 {kd : Int → Nat} {ln : Int → Int} (h : SK kd ln) : ln 36 = 10 := (h.2 (36, 20, 10) (List.mem_of_getElem? (i := 0) rfl)).2
theorem SR.r3 {mem : Int → Int → Int} (h : SR mem) : mem 35 3 = 36 := h (3, 36) (List.mem_of_getElem? (i := 0) rfl)
theorem SK.k37 {kd : Int → Nat} {ln : Int → Int} (h : SK kd ln) : kd 37 = 20 := (h.2 (37, 20, 10) (List.mem_of_getElem? (i := 1) rfl)).1
theorem SK.l37 {kd : Int → Nat} {ln : Int → Int} (h : SK kd ln) : ln 37 = 10 := (h.2 (37, 20, 10) (List.mem_of_getElem? (i := 1) rfl)).2
theorem SR.r4 {mem : Int → Int → Int} (h : SR mem) : mem 35 4 = 37 := h (4, 37) (List.mem_of_getElem? (i := 1) rfl)
theorem SK.k38 {kd : Int → Nat} {ln : Int → Int} (h : SK kd ln) : kd 38 = 20 := (h.2 (38, 20, 10) (List.mem_of_getElem? (i := 2) rfl)).1
theorem SK.l38 {kd : Int → Nat} {ln : Int → Int} (h : SK kd ln) : ln 38 = 10 := (h.2 (38, 20, 10) (List.mem_of_getElem? (i := 2) rfl)).2
theorem SR.r5 {mem : Int → Int → Int} (h : SR mem) : mem 35 5 = 38 := h (5, 38) (List.mem_of_getElem? (i := 2) rfl)
theorem SK.k39 {kd : Int → Nat} {ln : Int → Int} (h : SK kd ln) : kd 39 = 20 := (h.2 (39, 20, 160) (List.mem_of_getElem? (i := 3) rfl)).1
theorem SK.l39 {kd : Int → Nat} {ln : Int → Int} (h : SK kd ln) : ln 39 = 160 := (h.2 (39, 20, 160) (List.mem_of_getElem? (i := 3) rfl)).2
theorem SR.r7 {mem : Int → Int → Int} (h : SR mem) : mem 35 7 = 39 := h (7, 39) (List.mem_of_getElem? (i := 3) rfl)
theorem SK.k40 {kd : Int → Nat} {ln : Int → Int} (h : SK kd ln) : kd 40 = 20 := (h.2 (40, 20, 620) (List.mem_of_getElem? (i := 4) rfl)).1
theorem SK.l40 {kd : Int → Nat} {ln : Int → Int} (h : SK kd ln) : ln 40 = 620 := (h.2 (40, 20, 620) (List.mem_of_getElem? (i := 4) rfl)).2
theorem SR.r8 {mem : Int → Int → Int} (h : SR mem) : mem 35 8 = 40 := h (8, 40) (List.mem_of_getElem? (i := 4) rfl)
theorem SK.k41 {kd : Int → Nat} {ln : Int → Int} (h : SK kd ln) : kd 41 = 20 := (h.2 (41, 20, 7440) (List.mem_of_getElem? (i := 5) rfl)).1
theorem SK.l41 {kd : Int → Nat} {ln : Int → Int} (h : SK kd ln) : ln 41 = 7440 := (h.2 (41, 20, 7440) (List.mem_of_getElem? (i := 5) rfl)).2
theorem SR.r9 {mem : Int → Int → Int} (h : SR mem) : mem 35 9 = 41 := h (9, 41) (List.mem_of_getElem? (i := 5) rfl)
theorem SK.k42 {kd : Int → Nat} {ln : Int → Int} (h : SK kd ln) : kd 42 = 20 := (h.2 (42, 20, 12) (List.mem_of_getElem? (i := 6) rfl)).1
theorem SK.l42 {kd : Int → Nat} {ln : Int → Int} (h : SK kd ln) : ln 42 = 12 := (h.2 (42, 20, 12) (List.mem_of_getElem? (i := 6) rfl)).2
theorem SR.r10 {mem : Int → Int → Int} (h : SR mem) : mem 35 10 = 42 := h (10, 42) (List.mem_of_getElem? (i := 6) rfl)
theorem SK.k43 {kd : Int → Nat} {ln : Int → Int} (h : SK kd ln) : kd 43 = 20 := (h.2 (43, 20, 128) (List.mem_of_getElem? (i := 7) rfl)).1
theorem SK.l43 {kd : Int → Nat} {ln : Int → Int} (h : SK kd ln) : ln 43 = 128 := (h.2 (43, 20, 128) (List.mem_of_getElem? (i := 7) rfl)).2
theorem SR.r17 {mem : Int → Int → Int} (h : SR mem) : mem 35 17 = 43 := h (17, 43) (List.mem_of_getElem? (i := 7) rfl)
theorem SK.k44 {kd : Int → Nat} {ln : Int → Int} (h : SK kd ln) : kd 44 = 20 := (h.2 (44, 20, 200) (List.mem_of_getElem? (i := 8) rfl)).1
theorem SK.l44 {kd : Int → Nat} {ln : Int → Int} (h : SK kd ln) : ln 44 = 200 := (h.2 (44, 20, 200) (List.mem_of_getElem? (i := 8) rfl)).2
theorem SR.r18 {mem : Int → Int → Int} (h : SR mem) : mem 35 18 = 44 := h (18, 44) (List.mem_of_getElem? (i := 8) rfl)
theorem SK.k45 {kd : Int → Nat} {ln : Int → Int} (h : SK kd ln) : kd 45 = 20 := (h.2 (45, 20, 12) (List.mem_of_getElem? (i := 9) rfl)).1
theorem SK.l45 {kd : Int → Nat} {ln : Int → Int} (h : SK kd ln) : ln 45 = 12 := (h.2 (45, 20, 12) (List.mem_of_getElem? (i := 9) rfl)).2
theorem SR.r20 {mem : Int → Int → Int} (h : SR mem) : mem 35 20 = 45 := h (20, 45) (List.mem_of_getElem? (i := 9) rfl)
theorem SK.k46 {kd : Int → Nat} {ln : Int → Int} (h : SK kd ln) : kd 46 = 20 := (h.2 (46, 20, 12) (List.mem_of_getElem? (i := 10) rfl)).1
theorem SK.l46 {kd : Int → Nat} {ln : Int → Int} (h : SK kd ln) : ln 46 = 12 := (h.2 (46, 20, 12) (List.mem_of_getElem? (i := 10) rfl)).2
theorem SR.r21 {mem : Int → Int → Int} (h : SR mem) : mem 35 21 = 46 := h (21, 46) (List.mem_of_getElem? (i := 10) rfl)
theorem SK.k47 {kd : Int → Nat} {ln : Int → Int} (h : SK kd ln) : kd 47 = 20 := (h.2 (47, 20, 12) (List.mem_of_getElem? (i := 11) rfl)).1
theorem SK.l47 {kd : Int → Nat} {ln : Int → Int} (h : SK kd ln) : ln 47 = 12 := (h.2 (47, 20, 12) (List.mem_of_getElem? (i := 11) rfl)).2
theorem SR.r22 {mem : Int → Int → Int} (h : SR mem) : mem 35 22 = 47 := h (22, 47) (List.mem_of_getElem? (i := 11) rfl)
theorem SK.k48 {kd : Int → Nat} {ln : Int → Int} (h : SK kd ln) : kd 48 = 20 := (h.2 (48, 20, 12) (List.mem_of_getElem? (i := 12) rfl)).1
theorem SK.l48 {kd : Int → Nat} {ln : Int → Int} (h : SK kd ln) : ln 48 = 12 := (h.2 (48, 20, 12) (List.mem_of_getElem? (i := 12) rfl)).2
theorem SR.r23 {mem : Int → Int → Int} (h : SR mem) : mem 35 23 = 48 := h (23, 48) (List.mem_of_getElem? (i := 12) rfl)
theorem SK.k49 {kd : Int → Nat} {ln : Int → Int} (h : SK kd ln) : kd 49 = 20 := (h.2 (49, 20, 12) (List.mem_of_getElem? (i := 13) rfl)).1
theorem SK.l49 {kd : Int → Nat} {ln : Int → Int} (h : SK kd ln) : ln 49 = 12 := (h.2 (49, 20, 12) (List.mem_of_getElem? (i := 13) rfl)).2
theorem SR.r24 {mem : Int → Int → Int} (h : SR mem) : mem 35 24 = 49 := h (24, 49) (List.mem_of_getElem? (i := 13) rfl)
theorem SK.k50 {kd : Int → Nat} {ln : Int → Int} (h : SK kd ln) : kd 50 = 20 := (h.2 (50, 20, 12) (List.mem_of_getElem? (i := 14) rfl)).1
theorem SK.l50 {kd : Int → Nat} {ln : Int → Int} (h : SK kd ln) : ln 50 = 12 := (h.2 (50, 20, 12) (List.mem_of_getElem? (i := 14) rfl)).2
theorem SR.r25 {mem : Int → Int → Int} (h : SR mem) : mem 35 25 = 50 := h (25, 50) (List.mem_of_getElem? (i := 14) rfl)
theorem SK.k51 {kd : Int → Nat} {ln : Int → Int} (h : SK kd ln) : kd 51 = 20 := (h.2 (51, 20, 12) (List.mem_of_getElem? (i := 15) rfl)).1
theorem SK.l51 {kd : Int → Nat} {ln : Int → Int} (h : SK kd ln) : ln 51 = 12 := (h.2 (51, 20, 12) (List.mem_of_getElem? (i := 15) rfl)).2
theorem SR.r26 {mem : Int → Int → Int} (h : SR mem) : mem 35 26 = 51 := h (26, 51) (List.mem_of_getElem? (i := 15) rfl)
theorem SK.k52 {kd : Int → Nat} {ln : Int → Int} (h : SK kd ln) : kd 52 = 20 := (h.2 (52, 20, 12) (List.mem_of_getElem? (i := 16) rfl)).1
theorem SK.l52 {kd : Int → Nat} {ln : Int → Int} (h : SK kd ln) : ln 52 = 12 := (h.2 (52, 20, 12) (List.mem_of_getElem? (i := 16) rfl)).2
theorem SR.r27 {mem : Int → Int → Int} (h : SR mem) : mem 35 27 = 52 := h (27, 52) (List.mem_of_getElem? (i := 16) rfl)
theorem SK.k53 {kd : Int → Nat} {ln : Int → Int} (h : SK kd ln) : kd 53 = 20 := (h.2 (53, 20, 12) (List.mem_of_getElem? (i := 17) rfl)).1
theorem SK.l53 {kd : Int → Nat} {ln : Int → Int} (h : SK kd ln) : ln 53 = 12 := (h.2 (53, 20, 12) (List.mem_of_getElem? (i := 17) rfl)).2
theorem SR.r28 {mem : Int → Int → Int} (h : SR mem) : mem 35 28 = 53 := h (28, 53) (List.mem_of_getElem? (i := 17) rfl)
theorem SK.k54 {kd : Int → Nat} {ln : Int → Int} (h : SK kd ln) : kd 54 = 20 := (h.2 (54, 20, 480) (List.mem_of_getElem? (i := 18) rfl)).1
theorem SK.l54 {kd : Int → Nat} {ln : Int → Int} (h : SK kd ln) : ln 54 = 480 := (h.2 (54, 20, 480) (List.mem_of_getElem? (i := 18) rfl)).2
theorem SR.r29 {mem : Int → Int → Int} (h : SR mem) : mem 35 29 = 54 := h (29, 54) (List.mem_of_getElem? (i := 18) rfl)
theorem SK.k55 {kd : Int → Nat} {ln : Int → Int} (h : SK kd ln) : kd 55 = 20 := (h.2 (55, 20, 480) (List.mem_of_getElem? (i := 19) rfl)).1
theorem SK.l55 {kd : Int → Nat} {ln : Int → Int} (h : SK kd ln) : ln 55 = 480 := (h.2 (55, 20, 480) (List.mem_of_getElem? (i := 19) rfl)).2
theorem SR.r30 {mem : Int → Int → Int} (h : SR mem) : mem 35 30 = 55 := h (30, 55) (List.mem_of_getElem? (i := 19) rfl)
theorem SK.k56 {kd : Int → Nat} {ln : Int → Int} (h : SK kd ln) : kd 56 = 20 := (h.2 (56, 20, 480) (List.mem_of_getElem? (i := 20) rfl)).1
theorem SK.l56 {kd : Int → Nat} {ln : Int → Int} (h : SK kd ln) : ln 56 = 480 := (h.2 (56, 20, 480) (List.mem_of_getElem? (i := 20) rfl)).2
theorem SR.r31 {mem : Int → Int → Int} (h : SR mem) : mem 35 31 = 56 := h (31, 56) (List.mem_of_getElem? (i := 20) rfl)
theorem SK.k57 {kd : Int → Nat} {ln : Int → Int} (h : SK kd ln) : kd 57 = 20 := (h.2 (57, 20, 480) (List.mem_of_getElem? (i := 21) rfl)).1
theorem SK.l57 {kd : Int → Nat} {ln : Int → Int} (h : SK kd ln) : ln 57 = 480 := (h.2 (57, 20, 480) (List.mem_of_getElem? (i := 21) rfl)).2
theorem SR.r32 {mem : Int → Int → Int} (h : SR mem) : mem 35 32 = 57 := h (32, 57) (List.mem_of_getElem? (i := 21) rfl)
theorem SK.k58 {kd : Int → Nat} {ln : Int → Int} (h : SK kd ln) : kd 58 = 20 := (h.2 (58, 20, 480) (List.mem_of_getElem? (i := 22) rfl)).1
theorem SK.l58 {kd : Int → Nat} {ln : Int → Int} (h : SK kd ln) : ln 58 = 480 := (h.2 (58, 20, 480) (List.mem_of_getElem? (i := 22) rfl)).2
theorem SR.r34 {mem : Int → Int → Int} (h : SR mem) : mem 35 34 = 58 := h (34, 58) (List.mem_of_getElem? (i := 22) rfl)
theorem SK.k59 {kd : Int → Nat} {ln : Int → Int} (h : SK kd ln) : kd 59 = 21 := (h.2 (59, 21, 200) (List.mem_of_getElem? (i := 23) rfl)).1
theorem SK.l59 {kd : Int → Nat} {ln : Int → Int} (h : SK kd ln) : ln 59 = 200 := (h.2 (59, 21, 200) (List.mem_of_getElem? (i := 23) rfl)).2
theorem SR.r35 {mem : Int → Int → Int} (h : SR mem) : mem 35 35 = 59 := h (35, 59) (List.mem_of_getElem? (i := 23) rfl)
theorem SK.k60 {kd : Int → Nat} {ln : Int → Int} (h : SK kd ln) : kd 60 = 21 := (h.2 (60, 21, 200) (List.mem_of_getElem? (i := 24) rfl)).1
theorem SK.l60 {kd : Int → Nat} {ln : Int → Int} (h : SK kd ln) : ln 60 = 200 := (h.2 (60, 21, 200) (List.mem_of_getElem? (i := 24) rfl)).2
theorem SR.r36 {mem : Int → Int → Int} (h : SR mem) : mem 35 36 = 60 := h (36, 60) (List.mem_of_getElem? (i := 24) rfl)
theorem SK.k61 {kd : Int → Nat} {ln : Int → Int} (h : SK kd ln) : kd 61 = 21 := (h.2 (61, 21, 40) (List.mem_of_getElem? (i := 25) rfl)).1
theorem SK.l61 {kd : Int → Nat} {ln : Int → Int} (h : SK kd ln) : ln 61 = 40 := (h.2 (61, 21, 40) (List.mem_of_getElem? (i := 25) rfl)).2
theorem SR.r37 {mem : Int → Int → Int} (h : SR mem) : mem 35 37 = 61 := h (37, 61) (List.mem_of_getElem? (i := 25) rfl)
theorem SK.k62 {kd : Int → Nat} {ln : Int → Int} (h : SK kd ln) : kd 62 = 21 := (h.2 (62, 21, 5) (List.mem_of_getElem? (i := 26) rfl)).1
theorem SK.l62 {kd : Int → Nat} {ln : Int → Int} (h : SK kd ln) : ln 62 = 5 := (h.2 (62, 21, 5) (List.mem_of_getElem? (i := 26) rfl)).2
theorem SR.r38 {mem : Int → Int → Int} (h : SR mem) : mem 35 38 = 62 := h (38, 62) (List.mem_of_getElem? (i := 26) rfl)
theorem SK.k63 {kd : Int → Nat} {ln : Int → Int} (h : SK kd ln) : kd 63 = 20 := (h.2 (63, 20, 60) (List.mem_of_getElem? (i := 27) rfl)).1
theorem SK.l63 {kd : Int → Nat} {ln : Int → Int} (h : SK kd ln) : ln 63 = 60 := (h.2 (63, 20, 60) (List.mem_of_getElem? (i := 27) rfl)).2
theorem SR.r39 {mem : Int → Int → Int} (h : SR mem) : mem 35 39 = 63 := h (39, 63) (List.mem_of_getElem? (i := 27) rfl)
theorem SK.k64 {kd : Int → Nat} {ln : Int → Int} (h : SK kd ln) : kd 64 = 20 := (h.2 (64, 20, 60) (List.mem_of_getElem? (i := 28) rfl)).1
theorem SK.l64 {kd : Int → Nat} {ln : Int → Int} (h : SK kd ln) : ln 64 = 60 := (h.2 (64, 20, 60) (List.mem_of_getElem? (i := 28) rfl)).2
theorem SR.r40 {mem : Int → Int → Int} (h : SR mem) : mem 35 40 = 64 := h (40, 64) (List.mem_of_getElem? (i := 28) rfl)
theorem SK.k65 {kd : Int → Nat} {ln : Int → Int} (h : SK kd ln) : kd 65 = 20 := (h.2 (65, 20, 60) (List.mem_of_getElem? (i := 29) rfl)).1
theorem SK.l65 {kd : Int → Nat} {ln : Int → Int} (h : SK kd ln) : ln 65 = 60 := (h.2 (65, 20, 60) (List.mem_of_getElem? (i := 29) rfl)).2
theorem SR.r41 {mem : Int → Int → Int} (h : SR mem) : mem 35 41 = 65 := h (41, 65) (List.mem_of_getElem? (i := 29) rfl)
theorem SK.k66 {kd : Int → Nat} {ln : Int → Int} (h : SK kd ln) : kd 66 = 20 := (h.2 (66, 20, 60) (List.mem_of_getElem? (i := 30) rfl)).1
theorem SK.l66 {kd : Int → Nat} {ln : Int → Int} (h : SK kd ln) : ln 66 = 60 := (h.2 (66, 20, 60) (List.mem_of_getElem? (i := 30) rfl)).2
theorem SR.r42 {mem : Int → Int → Int} (h : SR mem) : mem 35 42 = 66 := h (42, 66) (List.mem_of_getElem? (i := 30) rfl)
theorem SK.k67 {kd : Int → Nat} {ln : Int → Int} (h : SK kd ln) : kd 67 = 20 := (h.2 (67, 20, 60) (List.mem_of_getElem? (i := 31) rfl)).1
theorem SK.l67 {kd : Int → Nat} {ln : Int → Int} (h : SK kd ln) : ln 67 = 60 := (h.2 (67, 20, 60) (List.mem_of_getElem? (i := 31) rfl)).2
theorem SR.r43 {mem : Int → Int → Int} (h : SR mem) : mem 35 43 = 67 := h (43, 67) (List.mem_of_getElem? (i := 31) rfl)
theorem SK.k68 {kd : Int → Nat} {ln : Int → Int} (h : SK kd ln) : kd 68 = 20 := (h.2 (68, 20, 60) (List.mem_of_getElem? (i := 32) rfl)).1
theorem SK.l68 {kd : Int → Nat} {ln : Int → Int} (h : SK kd ln) : ln 68 = 60 := (h.2 (68, 20, 60) (List.mem_of_getElem? (i := 32) rfl)).2
theorem SR.r44 {mem : Int → Int → Int} (h : SR mem) : mem 35 44 = 68 := h (44, 68) (List.mem_of_getElem? (i := 32) rfl)
theorem SK.k69 {kd : Int → Nat} {ln : Int → Int} (h : SK kd ln) : kd 69 = 21 := (h.2 (69, 21, 40) (List.mem_of_getElem? (i := 33) rfl)).1
theorem SK.l69 {kd : Int → Nat} {ln : Int → Int} (h : SK kd ln) : ln 69 = 40 := (h.2 (69, 21, 40) (List.mem_of_getElem? (i := 33) rfl)).2
theorem SR.r47 {mem : Int → Int → Int} (h : SR mem) : mem 35 47 = 69 := h (47, 69) (List.mem_of_getElem? (i := 33) rfl)
theorem SK.k70 {kd : Int → Nat} {ln : Int → Int} (h : SK kd ln) : kd 70 = 21 := (h.2 (70, 21, 40) (List.mem_of_getElem? (i := 34) rfl)).1
theorem SK.l70 {kd : Int → Nat} {ln : Int → Int} (h : SK kd ln) : ln 70 = 40 := (h.2 (70, 21, 40) (List.mem_of_getElem? (i := 34) rfl)).2
theorem SR.r48 {mem : Int → Int → Int} (h : SR mem) : mem 35 48 = 70 := h (48, 70) (List.mem_of_getElem? (i := 34) rfl)
theorem SK.k71 {kd : Int → Nat} {ln : Int → Int} (h : SK kd ln) : kd 71 = 20 := (h.2 (71, 20, 4) (List.mem_of_getElem? (i := 35) rfl)).1
theorem SK.l71 {kd : Int → Nat} {ln : Int → Int} (h : SK kd ln) : ln 71 = 4 := (h.2 (71, 20, 4) (List.mem_of_getElem? (i := 35) rfl)).2
theorem SR.r49 {mem : Int → Int → Int} (h : SR mem) : mem 35 49 = 71 := h (49, 71) (List.mem_of_getElem? (i := 35) rfl)
theorem SK.k72 {kd : Int → Nat} {ln : Int → Int} (h : SK kd ln) : kd 72 = 20 := (h.2 (72, 20, 4) (List.mem_of_getElem? (i := 36) rfl)).1
theorem SK.l72 {kd : Int → Nat} {ln : Int → Int} (h : SK kd ln) : ln 72 = 4 := (h.2 (72, 20, 4) (List.mem_of_getElem? (i := 36) rfl)).2
theorem SR.r50 {mem : Int → Int → Int} (h : SR mem) : mem 35 50 = 72 := h (50, 72) (List.mem_of_getElem? (i := 36) rfl)
theorem SK.k73 {kd : Int → Nat} {ln : Int → Int} (h : SK kd ln) : kd 73 = 21 := (h.2 (73, 21, 4) (List.mem_of_getElem? (i := 37) rfl)).1
theorem SK.l73 {kd : Int → Nat} {ln : Int → Int} (h : SK kd ln) : ln 73 = 4 := (h.2 (73, 21, 4) (List.mem_of_getElem? (i := 37) rfl)).2
theorem SR.r51 {mem : Int → Int → Int} (h : SR mem) : mem 35 51 = 73 := h (51, 73) (List.mem_of_getElem? (i := 37) rfl)
theorem SK.k74 {kd : Int → Nat} {ln : Int → Int} (h : SK kd ln) : kd 74 = 20 := (h.2 (74, 20, 4) (List.mem_of_getElem? (i := 38) rfl)).1
theorem SK.l74 {kd : Int → Nat} {ln : Int → Int} (h : SK kd ln) : ln 74 = 4 := (h.2 (74, 20, 4) (List.mem_of_getElem? (i := 38) rfl)).2
theorem SR.r52 {mem : Int → Int → Int} (h : SR mem) : mem 35 52 = 74 := h (52, 74) (List.mem_of_getElem? (i := 38) rfl)
theorem SK.k75 {kd : Int → Nat} {ln : Int → Int} (h : SK kd ln) : kd 75 = 20 := (h.2 (75, 20, 4) (List.mem_of_getElem? (i := 39) rfl)).1
theorem SK.l75 {kd : Int → Nat} {ln : Int → Int} (h : SK kd ln) : ln 75 = 4 := (h.2 (75, 20, 4) (List.mem_of_getElem? (i := 39) rfl)).2
theorem SR.r53 {mem : Int → Int → Int} (h : SR mem) : mem 35 53 = 75 := h (53, 75) (List.mem_of_getElem? (i := 39) rfl)
theorem SK.k76 {kd : Int → Nat} {ln : Int → Int} (h : SK kd ln) : kd 76 = 21 := (h.2 (76, 21, 4) (List.mem_of_getElem? (i := 40) rfl)).1
theorem SK.l76 {kd : Int → Nat} {ln : Int → Int} (h : SK kd ln) : ln 76 = 4 := (h.2 (76, 21, 4) (List.mem_of_getElem? (i := 40) rfl)).2
theorem SR.r54 {mem : Int → Int → Int} (h : SR mem) : mem 35 54 = 76 := h (54, 76) (List.mem_of_getElem? (i := 40) rfl)
theorem SK.k77 {kd : Int → Nat} {ln : Int → Int} (h : SK kd ln) : kd 77 = 20 := (h.2 (77, 20, 40) (List.mem_of_getElem? (i := 41) rfl)).1
theorem SK.l77 {kd : Int → Nat} {ln : Int → Int} (h : SK kd ln) : ln 77 = 40 := (h.2 (77, 20, 40) (List.mem_of_getElem? (i := 41) rfl)).2
theorem SR.r60 {mem : Int → Int → Int} (h : SR mem) : mem 35 60 = 77 := h (60, 77) (List.mem_of_getElem? (i := 41) rfl)
theorem SK.k78 {kd : Int → Nat} {ln : Int → Int} (h : SK kd ln) : kd 78 = 20 := (h.2 (78, 20, 40) (List.mem_of_getElem? (i := 42) rfl)).1
theorem SK.l78 {kd : Int → Nat} {ln : Int → Int} (h : SK kd ln) : ln 78 = 40 := (h.2 (78, 20, 40) (List.mem_of_getElem? (i := 42) rfl)).2
theorem SR.r61 {mem : Int → Int → Int} (h : SR mem) : mem 35 61 = 78 := h (61, 78) (List.mem_of_getElem? (i := 42) rfl)
theorem SK.k79 {kd : Int → Nat} {ln : Int → Int} (h : SK kd ln) : kd 79 = 20 := (h.2 (79, 20, 40) (List.mem_of_getElem? (i := 43) rfl)).1
theorem SK.l79 {kd : Int → Nat} {ln : Int → Int} (h : SK kd ln) : ln 79 = 40 := (h.2 (79, 20, 40) (List.mem_of_getElem? (i := 43) rfl)).2
theorem SR.r62 {mem : Int → Int → Int} (h : SR mem) : mem 35 62 = 79 := h (62, 79) (List.mem_of_getElem? (i := 43) rfl)
theorem SK.k80 {kd : Int → Nat} {ln : Int → Int} (h : SK kd ln) : kd 80 = 20 := (h.2 (80, 20, 40) (List.mem_of_getElem? (i := 44) rfl)).1
theorem SK.l80 {kd : Int → Nat} {ln : Int → Int} (h : SK kd ln) : ln 80 = 40 := (h.2 (80, 20, 40) (List.mem_of_getElem? (i := 44) rfl)).2
theorem SR.r63 {mem : Int → Int → Int} (h : SR mem) : mem 35 63 = 80 := h (63, 80) (List.mem_of_getElem? (i := 44) rfl)
theorem SK.k81 {kd : Int → Nat} {ln : Int → Int} (h : SK kd ln) : kd 81 = 20 := (h.2 (81, 20, 40) (List.mem_of_getElem? (i := 45) rfl)).1
theorem SK.l81 {kd : Int → Nat} {ln : Int → Int} (h : SK kd ln) : ln 81 = 40 := (h.2 (81, 20, 40) (List.mem_of_getElem? (i := 45) rfl)).2
theorem SR.r64 {mem : Int → Int → Int} (h : SR mem) : mem 35 64 = 81 := h (64, 81) (List.mem_of_getElem? (i := 45) rfl)
theorem SK.k82 {kd : Int → Nat} {ln : Int → Int} (h : SK kd ln) : kd 82 = 22 := (h.2 (82, 22, 12) (List.mem_of_getElem? (i := 46) rfl)).1
theorem SK.l82 {kd : Int → Nat} {ln : Int → Int} (h : SK kd ln) : ln 82 = 12 := (h.2 (82, 22, 12) (List.mem_of_getElem? (i := 46) rfl)).2
theorem SR.r66 {mem : Int → Int → Int} (h : SR mem) : mem 35 66 = 82 := h (66, 82) (List.mem_of_getElem? (i := 46) rfl)
theorem SK.k83 {kd : Int → Nat} {ln : Int → Int} (h : SK kd ln) : kd 83 = 21 := (h.2 (83, 21, 480) (List.mem_of_getElem? (i := 47) rfl)).1
theorem SK.l83 {kd : Int → Nat} {ln : Int → Int} (h : SK kd ln) : ln 83 = 480 := (h.2 (83, 21, 480) (List.mem_of_getElem? (i := 47) rfl)).2
theorem SR.r67 {mem : Int → Int → Int} (h : SR mem) : mem 35 67 = 83 := h (67, 83) (List.mem_of_getElem? (i := 47) rfl)
theorem SK.k84 {kd : Int → Nat} {ln : Int → Int} (h : SK kd ln) : kd 84 = 20 := (h.2 (84, 20, 80) (List.mem_of_getElem? (i := 48) rfl)).1
theorem SK.l84 {kd : Int → Nat} {ln : Int → Int} (h : SK kd ln) : ln 84 = 80 := (h.2 (84, 20, 80) (List.mem_of_getElem? (i := 48) rfl)).2
theorem SR.r68 {mem : Int → Int → Int} (h : SR mem) : mem 35 68 = 84 := h (68, 84) (List.mem_of_getElem? (i := 48) rfl)
theorem SK.k85 {kd : Int → Nat} {ln : Int → Int} (h : SK kd ln) : kd 85 = 20 := (h.2 (85, 20, 80) (List.mem_of_getElem? (i := 49) rfl)).1
theorem SK.l85 {kd : Int → Nat} {ln : Int → Int} (h : SK kd ln) : ln 85 = 80 := (h.2 (85, 20, 80) (List.mem_of_getElem? (i := 49) rfl)).2
theorem SR.r69 {mem : Int → Int → Int} (h : SR mem) : mem 35 69 = 85 := h (69, 85) (List.mem_of_getElem? (i := 49) rfl)
theorem SK.k86 {kd : Int → Nat} {ln : Int → Int} (h : SK kd ln) : kd 86 = 20 := (h.2 (86, 20, 80) (List.mem_of_getElem? (i := 50) rfl)).1
theorem SK.l86 {kd : Int → Nat} {ln : Int → Int} (h : SK kd ln) : ln 86 = 80 := (h.2 (86, 20, 80) (List.mem_of_getElem? (i := 50) rfl)).2
theorem SR.r70 {mem : Int → Int → Int} (h : SR mem) : mem 35 70 = 86 := h (70, 86) (List.mem_of_getElem? (i := 50) rfl)
theorem SK.k87 {kd : Int → Nat} {ln : Int → Int} (h : SK kd ln) : kd 87 = 20 := (h.2 (87, 20, 80) (List.mem_of_getElem? (i := 51) rfl)).1
theorem SK.l87 {kd : Int → Nat} {ln : Int → Int} (h : SK kd ln) : ln 87 = 80 := (h.2 (87, 20, 80) (List.mem_of_getElem? (i := 51) rfl)).2
theorem SR.r71 {mem : Int → Int → Int} (h : SR mem) : mem 35 71 = 87 := h (71, 87) (List.mem_of_getElem? (i := 51) rfl)
theorem SK.k88 {kd : Int → Nat} {ln : Int → Int} (h : SK kd ln) : kd 88 = 20 := (h.2 (88, 20, 8) (List.mem_of_getElem? (i := 52) rfl)).1
theorem SK.l88 {kd : Int → Nat} {ln : Int → Int} (h : SK kd ln) : ln 88 = 8 := (h.2 (88, 20, 8) (List.mem_of_getElem? (i := 52) rfl)).2
theorem SR.r73 {mem : Int → Int → Int} (h : SR mem) : mem 35 73 = 88 := h (73, 88) (List.mem_of_getElem? (i := 52) rfl)
theorem SK.k89 {kd : Int → Nat} {ln : Int → Int} (h : SK kd ln) : kd 89 = 21 := (h.2 (89, 21, 320) (List.mem_of_getElem? (i := 53) rfl)).1
theorem SK.l89 {kd : Int → Nat} {ln : Int → Int} (h : SK kd ln) : ln 89 = 320 := (h.2 (89, 21, 320) (List.mem_of_getElem? (i := 53) rfl)).2
theorem SR.r74 {mem : Int → Int → Int} (h : SR mem) : mem 35 74 = 89 := h (74, 89) (List.mem_of_getElem? (i := 53) rfl)
theorem SK.k90 {kd : Int → Nat} {ln : Int → Int} (h : SK kd ln) : kd 90 = 20 := (h.2 (90, 20, 40) (List.mem_of_getElem? (i := 54) rfl)).1
theorem SK.l90 {kd : Int → Nat} {ln : Int → Int} (h : SK kd ln) : ln 90 = 40 := (h.2 (90, 20, 40) (List.mem_of_getElem? (i := 54) rfl)).2
theorem SR.r75 {mem : Int → Int → Int} (h : SR mem) : mem 35 75 = 90 := h (75, 90) (List.mem_of_getElem? (i := 54) rfl)
theorem SK.k91 {kd : Int → Nat} {ln : Int → Int} (h : SK kd ln) : kd 91 = 20 := (h.2 (91, 20, 40) (List.mem_of_getElem? (i := 55) rfl)).1
theorem SK.l91 {kd : Int → Nat} {ln : Int → Int} (h : SK kd ln) : ln 91 = 40 := (h.2 (91, 20, 40) (List.mem_of_getElem? (i := 55) rfl)).2
theorem SR.r76 {mem : Int → Int → Int} (h : SR mem) : mem 35 76 = 91 := h (76, 91) (List.mem_of_getElem? (i := 55) rfl)
theorem SK.k92 {kd : Int → Nat} {ln : Int → Int} (h : SK kd ln) : kd 92 = 21 := (h.2 (92, 21, 40) (List.mem_of_getElem? (i := 56) rfl)).1
theorem SK.l92 {kd : Int → Nat} {ln : Int → Int} (h : SK kd ln) : ln 92 = 40 := (h.2 (92, 21, 40) (List.mem_of_getElem? (i := 56) rfl)).2
theorem SR.r77 {mem : Int → Int → Int} (h : SR mem) : mem 35 77 = 92 := h (77, 92) (List.mem_of_getElem? (i := 56) rfl)
theorem SK.k93 {kd : Int → Nat} {ln : Int → Int} (h : SK kd ln) : kd 93 = 21 := (h.2 (93, 21, 40) (List.mem_of_getElem? (i := 57) rfl)).1
theorem SK.l93 {kd : Int → Nat} {ln : Int → Int} (h : SK kd ln) : ln 93 = 40 := (h.2 (93, 21, 40) (List.mem_of_getElem? (i := 57) rfl)).2
theorem SR.r78 {mem : Int → Int → Int} (h : SR mem) : mem 35 78 = 93 := h (78, 93) (List.mem_of_getElem? (i := 57) rfl)
theorem SK.k94 {kd : Int → Nat} {ln : Int → Int} (h : SK kd ln) : kd 94 = 20 := (h.2 (94, 20, 8) (List.mem_of_getElem? (i := 58) rfl)).1
theorem SK.l94 {kd : Int → Nat} {ln : Int → Int} (h : SK kd ln) : ln 94 = 8 := (h.2 (94, 20, 8) (List.mem_of_getElem? (i := 58) rfl)).2
theorem SR.r81 {mem : Int → Int → Int} (h : SR mem) : mem 35 81 = 94 := h (81, 94) (List.mem_of_getElem? (i := 58) rfl)
theorem SK.k95 {kd : Int → Nat} {ln : Int → Int} (h : SK kd ln) : kd 95 = 21 := (h.2 (95, 21, 320) (List.mem_of_getElem? (i := 59) rfl)).1
theorem SK.l95 {kd : Int → Nat} {ln : Int → Int} (h : SK kd ln) : ln 95 = 320 := (h.2 (95, 21, 320) (List.mem_of_getElem? (i := 59) rfl)).2
theorem SR.r82 {mem : Int → Int → Int} (h : SR mem) : mem 35 82 = 95 := h (82, 95) (List.mem_of_getElem? (i := 59) rfl)
theorem SK.k96 {kd : Int → Nat} {ln : Int → Int} (h : SK kd ln) : kd 96 = 22 := (h.2 (96, 22, 320) (List.mem_of_getElem? (i := 60) rfl)).1
theorem SK.l96 {kd : Int → Nat} {ln : Int → Int} (h : SK kd ln) : ln 96 = 320 := (h.2 (96, 22, 320) (List.mem_of_getElem? (i := 60) rfl)).2
theorem SR.r83 {mem : Int → Int → Int} (h : SR mem) : mem 35 83 = 96 := h (83, 96) (List.mem_of_getElem? (i := 60) rfl)
theorem SK.k97 {kd : Int → Nat} {ln : Int → Int} (h : SK kd ln) : kd 97 = 20 := (h.2 (97, 20, 8) (List.mem_of_getElem? (i := 61) rfl)).1
theorem SK.l97 {kd : Int → Nat} {ln : Int → Int} (h : SK kd ln) : ln 97 = 8 := (h.2 (97, 20, 8) (List.mem_of_getElem? (i := 61) rfl)).2
theorem SR.r85 {mem : Int → Int → Int} (h : SR mem) : mem 35 85 = 97 := h (85, 97) (List.mem_of_getElem? (i := 61) rfl)
theorem SK.k98 {kd : Int → Nat} {ln : Int → Int} (h : SK kd ln) : kd 98 = 22 := (h.2 (98, 22, 8) (List.mem_of_getElem? (i := 62) rfl)).1
theorem SK.l98 {kd : Int → Nat} {ln : Int → Int} (h : SK kd ln) : ln 98 = 8 := (h.2 (98, 22, 8) (List.mem_of_getElem? (i := 62) rfl)).2
theorem SR.r86 {mem : Int → Int → Int} (h : SR mem) : mem 35 86 = 98 := h (86, 98) (List.mem_of_getElem? (i := 62) rfl)
theorem SK.k99 {kd : Int → Nat} {ln : Int → Int} (h : SK kd ln) : kd 99 = 21 := (h.2 (99, 21, 320) (List.mem_of_getElem? (i := 63) rfl)).1
theorem SK.l99 {kd : Int → Nat} {ln : Int → Int} (h : SK kd ln) : ln 99 = 320 := (h.2 (99, 21, 320) (List.mem_of_getElem? (i := 63) rfl)).2
theorem SR.r87 {mem : Int → Int → Int} (h : SR mem) : mem 35 87 = 99 := h (87, 99) (List.mem_of_getElem? (i := 63) rfl)
theorem SR.s {mem : Int → Int → Int} (h : SR mem) {a k v : Int} (hn : a ≠ 35 ∨ k ∉ smR.map Prod.fst) : SR (set2 mem a k v) := by
  intro p hp
  rcases hn with hn | hn
  · rw [s2_a (fun q => hn q.symm)]
    exact h p hp
  · rw [s2_k (fun q => hn (by rw [← q]; exact List.mem_map.mpr ⟨p, hp, rfl⟩))]
    exact h p hp
theorem SR.of {mem mem' : Int → Int → Int} (h : SR mem) (hm : ∀ k, k ∈ smR.map Prod.fst → mem' 35 k = mem 35 k) : SR mem' := fun p hp => by
  rw [hm p.1 (List.mem_map.mpr ⟨p, hp, rfl⟩)]
  exact h p hp
end KINDS
