section RELA
/-- what was pressed last of a line's place, and one; 0 if nothing was -/
def pvN (M : Int → Int → Int) (p n j : Int) : Nat → Int
  | 0 => 0
  | i + 1 => if M 84 i = p ∧ M 85 i = n ∧ M 86 i = j then M 87 i + 1 else pvN M p n j i
def kRow (k : Int) : Nat := if k = 13 ∨ k = 14 ∨ k = 15 ∨ k = 18 then 21 else 20
def O27 (mem M : Int → Int → Int) (i a : Int) : Prop := mem a 0 = M 36 i ∧ mem a 1 = M 37 i ∧ mem a 2 = M 38 i
def O28 (kd : Int → Nat) (ln : Int → Int) (mem : Int → Int → Int) (sz : Nat) (tg : Int → Int) (M : Int → Int → Int) (i a : Int) : Prop :=
  kd (mem a 0) = 20 ∧ OWN sz tg (mem a 0) (280000 + 100 * (i + 1) + 1) ∧ 0 ≤ mem a 1 ∧ mem a 1 ≤ ln (mem a 0) ∧ ln (mem a 0) ≤ 160 ∧ (∀ j : Int, 0 ≤ j → j < mem a 1 → 0 ≤ mem (mem a 0) j ∧ mem (mem a 0) j ≤ 255) ∧ (fauP (mem (mem a 0)) (mem a 1)).1 = -1 ∧ SG (M 41) (620 * i) (fauP (mem (mem a 0)) (mem a 1)).2.2 ∧ M 42 i = (fauP (mem (mem a 0)) (mem a 1)).2.2.length ∧ M 42 i ≤ 340
def PGN (mem M : Int → Int → Int) (P a : Int) : Prop := mem a 0 = M 45 P ∧ mem a 1 = M 46 P ∧ mem a 2 = M 47 P ∧ mem a 3 = M 48 P ∧ mem a 4 = M 49 P ∧ mem a 5 = M 50 P ∧ mem a 6 = M 51 P ∧ mem a 7 = M 52 P ∧ mem a 8 = M 53 P
def PGW (kd : Int → Nat) (ln : Int → Int) (mem : Int → Int → Int) (sz : Nat) (tg : Int → Int) (P a : Int) : Prop := ∀ k : Int, 9 ≤ k → k ≤ 18 → k ≠ 17 → ROW kd ln sz tg (mem a k) (290000 + 100 * (P + 1) + k) (kRow k) 40
def PGL (mem M : Int → Int → Int) (P a : Int) : Prop := ∀ n : Int, 0 ≤ n → n < M 47 P → mem (mem a 9) n = M 54 (40 * P + n) ∧ mem (mem a 10) n = M 55 (40 * P + n) ∧ mem (mem a 11) n = M 56 (40 * P + n) ∧ mem (mem a 12) n = M 58 (40 * P + n) ∧ M 57 (40 * P + n) = mx0 (M 58 (40 * P + n)) ∧ mem (mem a 13) n = nearP M P n ∧ mem (mem a 14) n = numT M P n ∧ mem (mem a 15) n = rightV M P n ∧ mem (mem a 16) n = slB M P n (M 35 45).toNat ∧ 0 ≤ M 56 (40 * P + n) ∧ M 56 (40 * P + n) ≤ 3 ∧ InI (M 58 (40 * P + n))
def PGT (kd : Int → Nat) (ln : Int → Int) (mem : Int → Int → Int) (sz : Nat) (tg : Int → Int) (M : Int → Int → Int) (P a : Int) : Prop :=
  (mem a 17 = -1 ∧ M 82 P = 0) ∨ (ROW kd ln sz tg (mem a 17) (290000 + 100 * (P + 1) + 17) 21 40 ∧ M 82 P = 1 ∧ (∀ n : Int, 0 ≤ n → n < M 47 P → mem (mem a 17) n = M 83 (40 * P + n)) ∧ ∀ n : Int, 0 ≤ n → n < 40 → -9000000000000000000 ≤ mem (mem a 17) n ∧ mem (mem a 17) n ≤ 9000000000000000000)
def PGP (mem M : Int → Int → Int) (P a : Int) : Prop := ∀ n : Int, 0 ≤ n → n < 40 → (0 ≤ mem (mem a 18) n ∧ mem (mem a 18) n < 4503599627370496) ∧ ∀ j : Int, 0 ≤ j → j ≤ 12 → nibG (mem (mem a 18) n) j = pvN M P n j (M 35 72).toNat
def O29 (kd : Int → Nat) (ln : Int → Int) (mem : Int → Int → Int) (sz : Nat) (tg : Int → Int) (M : Int → Int → Int) (P a : Int) : Prop :=
  PGN mem M P a ∧ PGW kd ln mem sz tg P a ∧ PGL mem M P a ∧ PGT kd ln mem sz tg M P a ∧ PGP mem M P a
def O30 (mem M : Int → Int → Int) (i a : Int) : Prop := mem a 0 = M 63 i ∧ mem a 1 = M 64 i ∧ mem a 2 = M 65 i ∧ mem a 3 = M 66 i ∧ mem a 4 = M 67 i ∧ mem a 5 = M 68 i
def O31 (kd : Int → Nat) (ln : Int → Int) (mem : Int → Int → Int) (sz : Nat) (tg : Int → Int) (M : Int → Int → Int) (i a : Int) : Prop := mem a 0 = M 88 i ∧ ROW kd ln sz tg (mem a 1) (310000 + 100 * (i + 1) + 1) 21 40 ∧ ∀ n : Int, 0 ≤ n → n < M 47 (M 88 i) → mem (mem a 1) n = M 89 (40 * i + n)
def O32 (kd : Int → Nat) (ln : Int → Int) (mem : Int → Int → Int) (sz : Nat) (tg : Int → Int) (M : Int → Int → Int) (i a : Int) : Prop := mem a 0 = M 94 i ∧ ROW kd ln sz tg (mem a 1) (320000 + 100 * (i + 1) + 1) 21 40 ∧ ∀ n : Int, 0 ≤ n → n < 40 → (M 96 (40 * i + n) = 0 ↔ wL (mem (mem a 1) n) = wL (-1)) ∧ (M 96 (40 * i + n) ≠ 0 → mem (mem a 1) n = M 95 (40 * i + n))
def O33 (mem M : Int → Int → Int) (i a : Int) : Prop := mem a 0 = M 90 i ∧ mem a 1 = M 91 i ∧ mem a 2 = M 92 i ∧ mem a 3 = M 93 i
def O34 (kd : Int → Nat) (ln : Int → Int) (mem : Int → Int → Int) (sz : Nat) (tg : Int → Int) (M : Int → Int → Int) (i a : Int) : Prop := mem a 0 = M 97 i ∧ ROW kd ln sz tg (mem a 1) (340000 + 100 * (i + 1) + 1) 21 40 ∧ mem a 2 = M 98 i ∧ ∀ j : Int, 0 ≤ j → j < 40 → mem (mem a 1) j = M 99 (40 * i + j)
def RN (mem M : Int → Int → Int) : Prop := (mem 3 0 = M 35 0 ∧ mem 3 1 = M 35 2 ∧ mem 3 2 = M 35 46 ∧ mem 3 3 = M 35 89 ∧ mem 3 4 = M 35 72 ∧ mem 3 5 = M 35 65) ∧ (∀ x y : Int, 0 ≤ x → x ≤ 7 → 0 ≤ y → y ≤ 7 → mem 4 (x * 8 + y) = leftV M x y) ∧ mem 5 1 = M 35 11 ∧ mem 6 = M 39 ∧ ∀ j : Int, j < 0 → mem 6 j = 0
def GRP (kd : Int → Nat) (ln : Int → Int) (mem : Int → Int → Int) (sz : Nat) (tg : Int → Int) (M : Int → Int → Int) : Prop :=
  RN mem M ∧ LSG kd ln mem sz tg 27 (M 35 6) 2 (O27 mem M) ∧ LSG kd ln mem sz tg 28 (M 35 16) 12 (O28 kd ln mem sz tg M) ∧ LSG kd ln mem sz tg 29 (M 35 33) 5 (O29 kd ln mem sz tg M) ∧ LSG kd ln mem sz tg 30 (M 35 45) 10 (O30 mem M) ∧ LSG kd ln mem sz tg 31 (M 35 79) 11 (O31 kd ln mem sz tg M) ∧ LSG kd ln mem sz tg 32 (M 35 84) 11 (O32 kd ln mem sz tg M) ∧ LSG kd ln mem sz tg 33 (M 35 80) 3 (O33 mem M) ∧ LSG kd ln mem sz tg 34 (M 35 88) 9 (O34 kd ln mem sz tg M)
/-- what the model's cells keep -/
def MI (M : Int → Int → Int) : Prop :=
  (0 ≤ M 35 0 ∧ M 35 0 ≤ 1000) ∧ (-1 ≤ M 35 2 ∧ M 35 2 ≤ M 35 0) ∧ FNS M ∧ PTX M ∧ (0 ≤ M 35 16 ∧ M 35 16 ≤ 12) ∧ PGS M ∧ (∀ p : Int, 0 ≤ p → p < M 35 33 → 0 ≤ M 45 p ∧ M 45 p < M 35 6) ∧ SLS M ∧ CHK M ∧ LH M ∧ DBS M ∧ (∀ k : Int, 0 ≤ k → k < M 35 65 → 0 ≤ M 77 k ∧ M 77 k ≤ 7 ∧ 0 ≤ M 78 k ∧ M 78 k ≤ 7 ∧ M 77 k ≠ M 78 k) ∧ PRS M ∧ (∀ i : Int, 0 ≤ i → i < M 35 72 → M 84 i < M 35 33 ∧ M 85 i < M 47 (M 84 i)) ∧ (∀ i k : Int, 0 ≤ i → i < k → k < M 35 72 → ¬ (M 84 i = M 84 k ∧ M 85 i = M 85 k ∧ M 86 i = M 86 k)) ∧ IST M ∧ (∀ p : Int, M 35 33 ≤ p → p < 12 → M 82 p = 0) ∧ PLB M ∧ CPS M ∧ ERS M ∧ OTS M ∧ (∀ i : Int, 0 ≤ i → i < 320 → 0 ≤ M 96 i ∧ M 96 i ≤ 1) ∧ (∀ i : Int, 40 * M 35 84 ≤ i → i < 320 → M 96 i = 0) ∧ SHS M ∧ (∀ s : Int, M 35 88 ≤ s → s < 8 → M 98 s = 0) ∧ (∀ i : Int, 40 * M 35 88 ≤ i → i < 320 → M 99 i = 0) ∧ (0 ≤ M 35 46 ∧ M 35 46 ≤ 1000) ∧ (1 ≤ M 35 89 ∧ M 35 89 ≤ 100)
theorem MI.eqs {M M' : Int → Int → Int} (h : MI M) (he : EQS M M') : MI M' := by
  rw [ovr_ex he]
  exact h
/-- everything: the house's cells and the model's stand to each other as they should -/
def INV (kd : Int → Nat) (ln : Int → Int) (mem : Int → Int → Int) (sz : Nat) (tg : Int → Int) : Prop := (SK kd ln ∧ HK kd ln ∧ SR mem ∧ HR mem ∧ 101 ≤ sz ∧ EB mem) ∧ MI mem ∧ GRP kd ln mem sz tg mem
/-! ## the objects, when cells and model's cells stay -/
section TR
variable {kd kd' : Int → Nat} {ln ln' : Int → Int} {mem mm M M' : Int → Int → Int} {sz sz' : Nat} {tg tg' : Int → Int} {i a : Int}
theorem O27.tr (h : O27 mem M i a) (ha : mm a = mem a) (e1 : M' 36 i = M 36 i) (e2 : M' 37 i = M 37 i) (e3 : M' 38 i = M 38 i) : O27 mm M' i a := by
  unfold O27
  rw [ha, e1, e2, e3]
  exact h
theorem O28.tr (h : O28 kd ln mem sz tg M i a) (hE : EXT kd ln sz kd' ln' sz') (ht : TGX sz tg tg') (hi : 0 ≤ i ∧ i < 64) (hA : AGR sz tg mem mm 28) (ha : mm a = mem a) (e1 : M' 41 = M 41 ∨ ∀ c : List Int, (c.length : Int) ≤ 340 → SG (M 41) (620 * i) c → SG (M' 41) (620 * i) c) (e2 : M' 42 i = M 42 i) : O28 kd' ln' mm sz' tg' M' i a := by
  obtain ⟨h1, h2, h3, h4, h5, h6, h7, h8, h9, h10⟩ := h
  have er : mm (mem a 0) = mem (mem a 0) := hA.own h2 (by omega)
  have e := hE.2 _ h2.2.1
  unfold O28
  rw [ha, er, e.1, e.2, e2]
  refine ⟨h1, h2.fr hE ht, h3, h4, h5, h6, h7, ?_, h9, h10⟩
  rcases e1 with q | q
  · rw [q]; exact h8
  · exact q _ (by omega) h8
theorem O30.tr (h : O30 mem M i a) (ha : mm a = mem a) (e : ∀ k : Int, 63 ≤ k → k ≤ 68 → M' k i = M k i) : O30 mm M' i a := by
  unfold O30
  rw [ha, e 63 (by decide) (by decide), e 64 (by decide) (by decide), e 65 (by decide) (by decide), e 66 (by decide) (by decide), e 67 (by decide) (by decide), e 68 (by decide) (by decide)]
  exact h
theorem O31.tr (h : O31 kd ln mem sz tg M i a) (hE : EXT kd ln sz kd' ln' sz') (ht : TGX sz tg tg') (hi : 0 ≤ i ∧ i < 64) (hA : AGR sz tg mem mm 31) (ha : mm a = mem a) (e1 : M' 88 i = M 88 i) (e2 : M' 47 (M 88 i) = M 47 (M 88 i)) (e3 : ∀ n : Int, 0 ≤ n → n < M 47 (M 88 i) → M' 89 (40 * i + n) = M 89 (40 * i + n)) : O31 kd' ln' mm sz' tg' M' i a := by
  obtain ⟨h1, h2, h3⟩ := h
  have er : mm (mem a 1) = mem (mem a 1) := hA.row h2 (by omega)
  unfold O31
  rw [ha, er, e1, e2]
  exact ⟨h1, h2.fr hE ht, fun n q1 q2 => by rw [e3 n q1 q2]; exact h3 n q1 q2⟩
theorem O32.tr (h : O32 kd ln mem sz tg M i a) (hE : EXT kd ln sz kd' ln' sz') (ht : TGX sz tg tg') (hi : 0 ≤ i ∧ i < 64) (hA : AGR sz tg mem mm 32) (ha : mm a = mem a) (e1 : M' 94 i = M 94 i) (e3 : ∀ n : Int, 0 ≤ n → n < 40 → M' 95 (40 * i + n) = M 95 (40 * i + n) ∧ M' 96 (40 * i + n) = M 96 (40 * i + n)) : O32 kd' ln' mm sz' tg' M' i a := by
  obtain ⟨h1, h2, h3⟩ := h
  have er : mm (mem a 1) = mem (mem a 1) := hA.row h2 (by omega)
  unfold O32
  rw [ha, er, e1]
  exact ⟨h1, h2.fr hE ht, fun n q1 q2 => by rw [(e3 n q1 q2).1, (e3 n q1 q2).2]; exact h3 n q1 q2⟩
theorem O33.tr (h : O33 mem M i a) (ha : mm a = mem a) (e : ∀ k : Int, 90 ≤ k → k ≤ 93 → M' k i = M k i) : O33 mm M' i a := by
  unfold O33
  rw [ha, e 90 (by decide) (by decide), e 91 (by decide) (by decide), e 92 (by decide) (by decide), e 93 (by decide) (by decide)]
  exact h
theorem O34.tr (h : O34 kd ln mem sz tg M i a) (hE : EXT kd ln sz kd' ln' sz') (ht : TGX sz tg tg') (hi : 0 ≤ i ∧ i < 64) (hA : AGR sz tg mem mm 34) (ha : mm a = mem a) (e1 : M' 97 i = M 97 i) (e2 : M' 98 i = M 98 i) (e3 : ∀ n : Int, 0 ≤ n → n < 40 → M' 99 (40 * i + n) = M 99 (40 * i + n)) : O34 kd' ln' mm sz' tg' M' i a := by
  obtain ⟨h1, h2, h3, h4⟩ := h
  have er : mm (mem a 1) = mem (mem a 1) := hA.row h2 (by omega)
  unfold O34
  rw [ha, er, e1, e2]
  exact ⟨h1, h2.fr hE ht, h3, fun n q1 q2 => by rw [e3 n q1 q2]; exact h4 n q1 q2⟩
/-- what a page's object tells of the model -/
def PGE (M M' : Int → Int → Int) (P : Int) : Prop := (∀ k : Int, 45 ≤ k → k ≤ 53 → M' k P = M k P) ∧ (∀ k : Int, 36 ≤ k → k ≤ 38 → M' k (M 45 P) = M k (M 45 P)) ∧ (∀ k n : Int, 54 ≤ k → k ≤ 58 → 0 ≤ n → n < M 47 P → M' k (40 * P + n) = M k (40 * P + n)) ∧ (∀ n : Int, 0 ≤ n → n < M 47 P → slB M' P n (M' 35 45).toNat = slB M P n (M 35 45).toNat) ∧ M' 82 P = M 82 P ∧ (∀ n : Int, 0 ≤ n → n < M 47 P → M' 83 (40 * P + n) = M 83 (40 * P + n)) ∧ ∀ n j : Int, 0 ≤ n → n < 40 → 0 ≤ j → j ≤ 12 → pvN M' P n j (M' 35 72).toNat = pvN M P n j (M 35 72).toNat
theorem PGE.nums {P : Int} (h1 : ∀ k : Int, 45 ≤ k → k ≤ 53 → M' k P = M k P) (h2 : ∀ k : Int, 36 ≤ k → k ≤ 38 → M' k (M 45 P) = M k (M 45 P)) : nearP M' P = nearP M P ∧ (∀ n : Int, numT M' P n = numT M P n) ∧ ∀ n : Int, rightV M' P n = rightV M P n := by
  have e45 := h1 45 (by decide) (by decide)
  have en : nearP M' P = nearP M P := by
    unfold nearP nearL
    rw [e45, h1 46 (by decide) (by decide), h1 48 (by decide) (by decide), h1 50 (by decide) (by decide), h1 51 (by decide) (by decide), h2 36 (by decide) (by decide), h2 37 (by decide) (by decide), h2 38 (by decide) (by decide)]
  refine ⟨en, fun n => ?_, fun n => ?_⟩
  · unfold numT
    rw [en, h1 49 (by decide) (by decide), h1 52 (by decide) (by decide)]
  · unfold rightV
    rw [e45, h1 46 (by decide) (by decide), h1 48 (by decide) (by decide), h1 50 (by decide) (by decide), h1 53 (by decide) (by decide), h2 36 (by decide) (by decide), h2 37 (by decide) (by decide), h2 38 (by decide) (by decide)]
theorem O29.tr {P : Int} (h : O29 kd ln mem sz tg M P a) (hE : EXT kd ln sz kd' ln' sz') (ht : TGX sz tg tg') (hi : 0 ≤ P ∧ P < 64) (hA : AGR sz tg mem mm 29) (ha : mm a = mem a) (hM : PGE M M' P) : O29 kd' ln' mm sz' tg' M' P a := by
  obtain ⟨h1, h2, h3, h4, h5⟩ := h
  obtain ⟨g1, g2, g3, g4, g5, g6, g7⟩ := hM
  obtain ⟨n1, n2, n3⟩ := PGE.nums g1 g2
  have er : ∀ k : Int, 9 ≤ k → k ≤ 18 → k ≠ 17 → mm (mem a k) = mem (mem a k) := fun k q1 q2 q3 => hA.row (h2 k q1 q2 q3) (by omega)
  have e47 := g1 47 (by decide) (by decide)
  refine ⟨?_, ?_, ?_, ?_, ?_⟩
  · unfold PGN
    rw [ha, g1 45 (by decide) (by decide), g1 46 (by decide) (by decide), g1 47 (by decide) (by decide), g1 48 (by decide) (by decide), g1 49 (by decide) (by decide), g1 50 (by decide) (by decide), g1 51 (by decide) (by decide), g1 52 (by decide) (by decide), g1 53 (by decide) (by decide)]
    exact h1
  · intro k q1 q2 q3
    rw [ha]
    exact (h2 k q1 q2 q3).fr hE ht
  · intro n q1 q2
    rw [e47] at q2
    rw [ha, er 9 (by decide) (by decide) (by decide), er 10 (by decide) (by decide) (by decide), er 11 (by decide) (by decide) (by decide), er 12 (by decide) (by decide) (by decide), er 13 (by decide) (by decide) (by decide), er 14 (by decide) (by decide) (by decide), er 15 (by decide) (by decide) (by decide), er 16 (by decide) (by decide) (by decide), g3 54 n (by decide) (by decide) q1 q2, g3 55 n (by decide) (by decide) q1 q2, g3 56 n (by decide) (by decide) q1 q2, g3 57 n (by decide) (by decide) q1 q2, g3 58 n (by decide) (by decide) q1 q2, n1, n2, n3, g4 n q1 q2]
    exact h3 n q1 q2
  · unfold PGT
    rw [ha, g5]
    rcases h4 with q | ⟨q1, q2, q3, q4⟩
    · exact Or.inl q
    · have e17 : mm (mem a 17) = mem (mem a 17) := hA.row q1 (by omega)
      rw [e17, e47]
      exact Or.inr ⟨q1.fr hE ht, q2, fun n w1 w2 => by rw [g6 n w1 w2]; exact q3 n w1 w2, q4⟩
  · intro n q1 q2
    rw [ha, er 18 (by decide) (by decide) (by decide)]
    exact ⟨(h5 n q1 q2).1, fun j w1 w2 => by rw [g7 n j q1 q2 w1 w2]; exact (h5 n q1 q2).2 j w1 w2⟩
theorem slB_cg {p n : Int} : ∀ k : Nat, (∀ s : Int, 0 ≤ s → s < k → M' 63 s = M 63 s ∧ M' 64 s = M 64 s) → slB M' p n k = slB M p n k := by
  intro k
  induction k with
  | zero => intro _; rfl
  | succ k ih => intro h; unfold slB; rw [ih (fun s q1 q2 => h s q1 (by omega)), (h k (by omega) (by omega)).1, (h k (by omega) (by omega)).2]
theorem pvN_cg {p n j : Int} : ∀ k : Nat, (∀ s : Int, 0 ≤ s → s < k → M' 84 s = M 84 s ∧ M' 85 s = M 85 s ∧ M' 86 s = M 86 s ∧ M' 87 s = M 87 s) → pvN M' p n j k = pvN M p n j k := by
  intro k
  induction k with
  | zero => intro _; rfl
  | succ k ih => intro h; have g := h k (by omega) (by omega); unfold pvN; rw [ih (fun s q1 q2 => h s q1 (by omega)), g.1, g.2.1, g.2.2.1, g.2.2.2]
/-- the usual case: none of its cells changed -/
theorem PGE.of {P : Int} (h : ∀ k j : Int, (36 ≤ k ∧ k ≤ 38) ∨ (45 ≤ k ∧ k ≤ 58) ∨ k = 63 ∨ k = 64 ∨ (82 ≤ k ∧ k ≤ 87) ∨ (k = 35 ∧ (j = 45 ∨ j = 72)) → M' k j = M k j) : PGE M M' P := by
  refine ⟨fun k q1 q2 => h k P (by omega), fun k q1 q2 => h k _ (by omega), fun k n q1 q2 _ _ => h k _ (by omega), fun n _ _ => ?_, h 82 P (by omega), fun n _ _ => h 83 _ (by omega), fun n j _ _ _ _ => ?_⟩
  · rw [h 35 45 (by omega)]
    exact slB_cg _ (fun s _ _ => ⟨h 63 s (by omega), h 64 s (by omega)⟩)
  · rw [h 35 72 (by omega)]
    exact pvN_cg _ (fun s _ _ => ⟨h 84 s (by omega), h 85 s (by omega), h 86 s (by omega), h 87 s (by omega)⟩)
end TR
theorem lsN_cg {M M' : Int → Int → Int} {x y : Int} : ∀ k : Nat, (∀ s : Int, 0 ≤ s → s < k → M' 77 s = M 77 s ∧ M' 78 s = M 78 s) → lsN M' x y k = lsN M x y k := by
  intro k
  induction k with
  | zero => intro _; rfl
  | succ k ih => intro h; have g := h k (by omega) (by omega); unfold lsN; rw [ih (fun s q1 q2 => h s q1 (by omega)), g.1, g.2]
/-- all of the house stays, the model's cells that count too -/
theorem GRP.fr {kd kd' : Int → Nat} {ln ln' : Int → Int} {mem mm M M' : Int → Int → Int} {sz sz' : Nat} {tg tg' : Int → Int} (h : GRP kd ln mem sz tg M) (hs : 101 ≤ sz) (hE : EXT kd ln sz kd' ln' sz') (ht : TGX sz tg tg') (hc : ∀ a j : Int, (a = 3 ∧ j ≤ 5) ∨ a = 4 ∨ (a = 5 ∧ j = 1) ∨ a = 6 ∨ (27 ≤ a ∧ a ≤ 34) ∨ (101 ≤ a ∧ a < sz) → mm a j = mem a j) (hM : EQS M M') : GRP kd' ln' mm sz' tg' M' := by
  obtain ⟨h0, h27, h28, h29, h30, h31, h32, h33, h34⟩ := h
  have hA : ∀ L : Int, 27 ≤ L → L ≤ 34 → AG sz tg mem mm L := fun L q1 q2 => ⟨funext fun j => hc L j (by omega), fun a w1 w2 _ _ => funext fun j => hc a j (by omega)⟩
  have ho : ∀ a : Int, 101 ≤ a ∧ a < sz → mm a = mem a := fun a w => funext fun j => hc a j (by omega)
  have hm : ∀ k j : Int, 36 ≤ k → k ≤ 99 → k ≠ 40 → k ≠ 43 → k ≠ 44 → ¬ (59 ≤ k ∧ k ≤ 62) → ¬ (69 ≤ k ∧ k ≤ 76) → M' k j = M k j := fun k j q1 q2 q3 q4 q5 q6 q7 => hM k j ⟨by omega, q2, q3, q4, q5, q6, q7, by omega⟩
  have hn : ∀ j : Int, j = 0 ∨ j = 2 ∨ j = 6 ∨ j = 11 ∨ j = 16 ∨ j = 33 ∨ j = 45 ∨ j = 46 ∨ j = 65 ∨ j = 72 ∨ j = 79 ∨ j = 80 ∨ j = 84 ∨ j = 88 ∨ j = 89 → M' 35 j = M 35 j := fun j q => hM 35 j ⟨by omega, by omega, by omega, by omega, by omega, by omega, by omega, by omega⟩
  refine ⟨?_, ?_, ?_, ?_, ?_, ?_, ?_, ?_, ?_⟩
  · obtain ⟨⟨g1, g2, g3, g4, g5, g6⟩, g7, g8, g9, g10⟩ := h0
    refine ⟨⟨?_, ?_, ?_, ?_, ?_, ?_⟩, fun x y q1 q2 q3 q4 => ?_, ?_, ?_, fun j q => ?_⟩
    · rw [hc 3 0 (by omega), hn 0 (by omega)]; exact g1
    · rw [hc 3 1 (by omega), hn 2 (by omega)]; exact g2
    · rw [hc 3 2 (by omega), hn 46 (by omega)]; exact g3
    · rw [hc 3 3 (by omega), hn 89 (by omega)]; exact g4
    · rw [hc 3 4 (by omega), hn 72 (by omega)]; exact g5
    · rw [hc 3 5 (by omega), hn 65 (by omega)]; exact g6
    · rw [hc 4 _ (by omega), g7 x y q1 q2 q3 q4, ovr_ex hM]; exact (cg_leftV M' M x y).symm
    · rw [hc 5 1 (by omega), hn 11 (by omega)]; exact g8
    · rw [show mm 6 = mem 6 from funext fun j => hc 6 j (by omega), g9]; exact (funext fun j => hm 39 j (by omega) (by omega) (by omega) (by omega) (by omega) (by omega) (by omega)).symm
    · rw [hc 6 j (by omega)]; exact g10 j q
  · exact h27.fr hE ht (hA 27 (by omega) (by omega)) (by omega) (hn 6 (by omega)) (fun i a q1 q2 q3 q4 => q4.tr (ho a ⟨q3.1, q3.2.1⟩) (hm 36 i (by omega) (by omega) (by omega) (by omega) (by omega) (by omega) (by omega)) (hm 37 i (by omega) (by omega) (by omega) (by omega) (by omega) (by omega) (by omega)) (hm 38 i (by omega) (by omega) (by omega) (by omega) (by omega) (by omega) (by omega)))
  · have hl := h28.len
    exact h28.fr hE ht (hA 28 (by omega) (by omega)) (by omega) (hn 16 (by omega)) (fun i a q1 q2 q3 q4 => q4.tr hE ht ⟨q1, by omega⟩ (hA 28 (by omega) (by omega)).r (ho a ⟨q3.1, q3.2.1⟩) (Or.inl (funext fun j => hM 41 j (by omega))) (hM 42 i (by omega)))
  · have hl := h29.len
    exact h29.fr hE ht (hA 29 (by omega) (by omega)) (by omega) (hn 33 (by omega)) (fun i a q1 q2 q3 q4 => q4.tr hE ht ⟨q1, by omega⟩ (hA 29 (by omega) (by omega)).r (ho a ⟨q3.1, q3.2.1⟩) (PGE.of fun k j w => hM k j (by omega)))
  · exact h30.fr hE ht (hA 30 (by omega) (by omega)) (by omega) (hn 45 (by omega)) (fun i a q1 q2 q3 q4 => q4.tr (ho a ⟨q3.1, q3.2.1⟩) (fun k w1 w2 => hM k i (by omega)))
  · have hl := h31.len
    exact h31.fr hE ht (hA 31 (by omega) (by omega)) (by omega) (hn 79 (by omega)) (fun i a q1 q2 q3 q4 => q4.tr hE ht ⟨q1, by omega⟩ (hA 31 (by omega) (by omega)).r (ho a ⟨q3.1, q3.2.1⟩) (hM 88 i (by omega)) (hM 47 _ (by omega)) (fun n _ _ => hM 89 _ (by omega)))
  · have hl := h32.len
    exact h32.fr hE ht (hA 32 (by omega) (by omega)) (by omega) (hn 84 (by omega)) (fun i a q1 q2 q3 q4 => q4.tr hE ht ⟨q1, by omega⟩ (hA 32 (by omega) (by omega)).r (ho a ⟨q3.1, q3.2.1⟩) (hM 94 i (by omega)) (fun n _ _ => ⟨hM 95 _ (by omega), hM 96 _ (by omega)⟩))
  · exact h33.fr hE ht (hA 33 (by omega) (by omega)) (by omega) (hn 80 (by omega)) (fun i a q1 q2 q3 q4 => q4.tr (ho a ⟨q3.1, q3.2.1⟩) (fun k w1 w2 => hM k i (by omega)))
  · have hl := h34.len
    exact h34.fr hE ht (hA 34 (by omega) (by omega)) (by omega) (hn 88 (by omega)) (fun i a q1 q2 q3 q4 => q4.tr hE ht ⟨q1, by omega⟩ (hA 34 (by omega) (by omega)).r (ho a ⟨q3.1, q3.2.1⟩) (hM 97 i (by omega)) (hM 98 i (by omega)) (fun n _ _ => hM 99 _ (by omega)))
/-- what a call may change and leave all as it stands -/
abbrev SCX (a j : Int) : Prop := (a ≤ 6 ∨ (8 ≤ a ∧ a ≤ 10) ∨ (a = 14 ∧ j ≤ 6) ∨ (a = 22 ∧ j ≤ 3) ∨ (27 ≤ a ∧ a ≤ 34) ∨ 100 ≤ a) ∨ SC a j
theorem INV.fr {kd : Int → Nat} {ln : Int → Int} {mem mm : Int → Int → Int} {sz : Nat} {tg : Int → Int} (h : INV kd ln mem sz tg) (hf : ∀ a j : Int, SCX a j → mm a j = mem a j) (hEB : EB mm) : INV kd ln mm sz tg := by
  obtain ⟨⟨i1, i2, i3, i4, i5, i6⟩, hM, hG⟩ := h
  have he : EQS mem mm := fun a j q => hf a j (Or.inr q)
  refine ⟨⟨i1, i2, fun p hp => ?_, i4.of (fun a k q => hf a k (Or.inl (by omega))), i5, hEB⟩, hM.eqs he, hG.fr i5 EXT.rf (fun _ _ => rfl) (fun a j q => hf a j (Or.inl (by omega))) he⟩
  have hq : ∀ p ∈ smR, SC 35 p.1 := by decide +kernel
  rw [hf 35 p.1 (Or.inr (hq p hp))]
  exact i3 p hp
end RELA
