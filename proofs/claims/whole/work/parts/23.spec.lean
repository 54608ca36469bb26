section SPEC2
/-- a long as the machine holds it -/
def wL (a : Int) : Int := (Int64.ofInt a).toInt
theorem wL_in (a : Int) : InL (wL a) := L_in _
theorem wL_id {a : Int} (h : InL a) : wL a = a := L_toInt h
theorem cv_wL (g : GP) (a : Int) : cv g (1, wL a) = cv g (1, a) := by
  show Value.long (Int64.ofInt (Int64.ofInt a).toInt) = _
  rw [L_of]
  rfl
theorem L_eqW {a b : Int} : Int64.ofInt a = Int64.ofInt b ↔ wL a = wL b := by rw [← Int64.toInt_inj]; rfl
theorem L_ltW {a b : Int} : Int64.ofInt a < Int64.ofInt b ↔ wL a < wL b := by rw [Int64.lt_iff_toInt_lt]; rfl
theorem L_leW {a b : Int} : Int64.ofInt a ≤ Int64.ofInt b ↔ wL a ≤ wL b := by rw [Int64.le_iff_toInt_le]; rfl
theorem wL_eq_iff (a b : Int) : wL a = wL b ↔ (a - b) % 18446744073709551616 = 0 := by
  unfold wL
  rw [Int64.toInt_ofInt, Int64.toInt_ofInt]
  have h1 := Int.bmod_def a 18446744073709551616
  have h2 := Int.bmod_def b 18446744073709551616
  show a.bmod 18446744073709551616 = b.bmod 18446744073709551616 ↔ _
  rw [h1, h2]
  split <;> split <;> omega
section WR
variable {z : ZT} {l : Launch} {g : GP} {nL : Nat} {cells slots : Nat} {Q : State → Prop} {pc : Nat} {lo : List (Nat × AV)} {st rest : List AV} {kd : Int → Nat} {ln : Int → Int} {mem : Int → Int → Int} {sz : Nat} {cc : ByteArray} {own : String} {R : Room}
theorem jlcmpW_eq (hF : FX z l g nL cc own R) {a b off : Int} (tgt : Nat) (hd1 : decode cc pc = .ok (.lcmp, 1)) (hd : decode cc (pc + 1) = .ok (.ifCond .eq off, 3)) (ht : ((pc + 1 : Nat) : Int) + off = (tgt : Int)) (kt : wL a = wL b → J z g nL cells slots Q tgt lo rest kd ln mem sz) (kf : ¬ (wL a = wL b) → J z g nL cells slots Q (pc + 1 + 3) lo rest kd ln mem sz) : J z g nL cells slots Q pc lo ((1, b) :: (1, a) :: rest) kd ln mem sz := by
  obtain ⟨p, l, e, R', s, m, args, below, meth, c⟩ := z
  obtain ⟨hx, hb, -⟩ := hF
  intro ls H locs hl hR hq
  refine W.lcmp hx hb hd1 ?_
  exact lv_if_eq hx hb hd ht (fun h => kt (L_eqW.mp ((lg_cmp_eq _ _).mp h)) ls H locs hl hR hq) (fun h => kf (fun q => h ((lg_cmp_eq _ _).mpr (L_eqW.mpr q))) ls H locs hl hR hq)
theorem jlcmpW_ne (hF : FX z l g nL cc own R) {a b off : Int} (tgt : Nat) (hd1 : decode cc pc = .ok (.lcmp, 1)) (hd : decode cc (pc + 1) = .ok (.ifCond .ne off, 3)) (ht : ((pc + 1 : Nat) : Int) + off = (tgt : Int)) (kt : wL a ≠ wL b → J z g nL cells slots Q tgt lo rest kd ln mem sz) (kf : wL a = wL b → J z g nL cells slots Q (pc + 1 + 3) lo rest kd ln mem sz) : J z g nL cells slots Q pc lo ((1, b) :: (1, a) :: rest) kd ln mem sz := by
  obtain ⟨p, l, e, R', s, m, args, below, meth, c⟩ := z
  obtain ⟨hx, hb, -⟩ := hF
  intro ls H locs hl hR hq
  refine W.lcmp hx hb hd1 ?_
  exact lv_if_ne hx hb hd ht (fun h => kt (fun q => h ((lg_cmp_eq _ _).mpr (L_eqW.mpr q))) ls H locs hl hR hq) (fun h => kf (L_eqW.mp ((lg_cmp_eq _ _).mp h)) ls H locs hl hR hq)
theorem jlcmpW_lt (hF : FX z l g nL cc own R) {a b off : Int} (tgt : Nat) (hd1 : decode cc pc = .ok (.lcmp, 1)) (hd : decode cc (pc + 1) = .ok (.ifCond .lt off, 3)) (ht : ((pc + 1 : Nat) : Int) + off = (tgt : Int)) (kt : wL a < wL b → J z g nL cells slots Q tgt lo rest kd ln mem sz) (kf : ¬ (wL a < wL b) → J z g nL cells slots Q (pc + 1 + 3) lo rest kd ln mem sz) : J z g nL cells slots Q pc lo ((1, b) :: (1, a) :: rest) kd ln mem sz := by
  obtain ⟨p, l, e, R', s, m, args, below, meth, c⟩ := z
  obtain ⟨hx, hb, -⟩ := hF
  intro ls H locs hl hR hq
  refine W.lcmp hx hb hd1 ?_
  exact lv_if_lt hx hb hd ht (fun h => kt (L_ltW.mp ((lg_cmp_lt _ _).mp h)) ls H locs hl hR hq) (fun h => kf (fun q => h ((lg_cmp_lt _ _).mpr (L_ltW.mpr q))) ls H locs hl hR hq)
theorem jlcmpW_ge (hF : FX z l g nL cc own R) {a b off : Int} (tgt : Nat) (hd1 : decode cc pc = .ok (.lcmp, 1)) (hd : decode cc (pc + 1) = .ok (.ifCond .ge off, 3)) (ht : ((pc + 1 : Nat) : Int) + off = (tgt : Int)) (kt : wL b ≤ wL a → J z g nL cells slots Q tgt lo rest kd ln mem sz) (kf : ¬ (wL b ≤ wL a) → J z g nL cells slots Q (pc + 1 + 3) lo rest kd ln mem sz) : J z g nL cells slots Q pc lo ((1, b) :: (1, a) :: rest) kd ln mem sz := by
  obtain ⟨p, l, e, R', s, m, args, below, meth, c⟩ := z
  obtain ⟨hx, hb, -⟩ := hF
  intro ls H locs hl hR hq
  refine W.lcmp hx hb hd1 ?_
  exact lv_if_ge hx hb hd ht (fun h => kt (L_leW.mp ((lg_cmp_ge _ _).mp h)) ls H locs hl hR hq) (fun h => kf (fun q => h ((lg_cmp_ge _ _).mpr (L_leW.mpr q))) ls H locs hl hR hq)
theorem jlcmpW_gt (hF : FX z l g nL cc own R) {a b off : Int} (tgt : Nat) (hd1 : decode cc pc = .ok (.lcmp, 1)) (hd : decode cc (pc + 1) = .ok (.ifCond .gt off, 3)) (ht : ((pc + 1 : Nat) : Int) + off = (tgt : Int)) (kt : wL b < wL a → J z g nL cells slots Q tgt lo rest kd ln mem sz) (kf : ¬ (wL b < wL a) → J z g nL cells slots Q (pc + 1 + 3) lo rest kd ln mem sz) : J z g nL cells slots Q pc lo ((1, b) :: (1, a) :: rest) kd ln mem sz := by
  obtain ⟨p, l, e, R', s, m, args, below, meth, c⟩ := z
  obtain ⟨hx, hb, -⟩ := hF
  intro ls H locs hl hR hq
  refine W.lcmp hx hb hd1 ?_
  exact lv_if_gt hx hb hd ht (fun h => kt (L_ltW.mp ((lg_cmp_gt _ _).mp h)) ls H locs hl hR hq) (fun h => kf (fun q => h ((lg_cmp_gt _ _).mpr (L_ltW.mpr q))) ls H locs hl hR hq)
theorem jlcmpW_le (hF : FX z l g nL cc own R) {a b off : Int} (tgt : Nat) (hd1 : decode cc pc = .ok (.lcmp, 1)) (hd : decode cc (pc + 1) = .ok (.ifCond .le off, 3)) (ht : ((pc + 1 : Nat) : Int) + off = (tgt : Int)) (kt : wL a ≤ wL b → J z g nL cells slots Q tgt lo rest kd ln mem sz) (kf : ¬ (wL a ≤ wL b) → J z g nL cells slots Q (pc + 1 + 3) lo rest kd ln mem sz) : J z g nL cells slots Q pc lo ((1, b) :: (1, a) :: rest) kd ln mem sz := by
  obtain ⟨p, l, e, R', s, m, args, below, meth, c⟩ := z
  obtain ⟨hx, hb, -⟩ := hF
  intro ls H locs hl hR hq
  refine W.lcmp hx hb hd1 ?_
  exact lv_if_le hx hb hd ht (fun h => kt (L_leW.mp ((lg_cmp_le _ _).mp h)) ls H locs hl hR hq) (fun h => kf (fun q => h ((lg_cmp_le _ _).mpr (L_leW.mpr q))) ls H locs hl hR hq)
theorem jwL0 {a : Int} (k : J z g nL cells slots Q pc lo ((1, wL a) :: rest) kd ln mem sz) : J z g nL cells slots Q pc lo ((1, a) :: rest) kd ln mem sz := by
  obtain ⟨p, l, e, R', s, m, args, below, meth, c⟩ := z
  intro ls H locs hl hR hq
  have := k ls H locs hl hR hq
  rw [List.map_cons, cv_wL] at this
  exact this
theorem jwL1 {a : Int} {v : AV} (k : J z g nL cells slots Q pc lo (v :: (1, wL a) :: rest) kd ln mem sz) : J z g nL cells slots Q pc lo (v :: (1, a) :: rest) kd ln mem sz := by
  obtain ⟨p, l, e, R', s, m, args, below, meth, c⟩ := z
  intro ls H locs hl hR hq
  have := k ls H locs hl hR hq
  rw [List.map_cons, List.map_cons, cv_wL] at this
  exact this
theorem jdup2 (hF : FX z l g nL cc own R) {x y : AV} (hx1 : ¬ x.1 = 1) (hy1 : ¬ y.1 = 1) (hd : decode cc pc = .ok (.dup2, 1)) (k : J z g nL cells slots Q (pc + 1) lo (x :: y :: x :: y :: rest) kd ln mem sz) : J z g nL cells slots Q pc lo (x :: y :: rest) kd ln mem sz := by
  obtain ⟨p, l, e, R', s, m, args, below, meth, c⟩ := z
  obtain ⟨hx, hb, -⟩ := hF
  exact fun ls H locs hl hR hq => lv_dup2_11 hx hb hd (av_c1 hx1) (av_c1 hy1) (k ls H locs hl hR hq)
end WR
/-! pages: records, numbers of a page -/
abbrev PG (mem : Int → Int → Int) (p : Int) : Prop := 0 ≤ p ∧ p < 12 ∧ FN mem (mem 45 p) ∧ 1 ≤ mem 46 p ∧ 2 ≤ mem 47 p ∧ mem 47 p ≤ 40 ∧ 1 ≤ mem 48 p ∧ mem 48 p ≤ 50 ∧ 1 ≤ mem 49 p ∧ mem 49 p ≤ 4 ∧ 0 ≤ mem 50 p ∧ mem 50 p ≤ 5 ∧ 0 ≤ mem 51 p ∧ mem 51 p ≤ 6 - mem 50 p ∧ mem 49 p + 2 ≤ mem 52 p ∧ mem 52 p ≤ 40 ∧ 0 ≤ mem 53 p ∧ mem 53 p ≤ 2 ∧ mem 46 p + (mem 47 p - 1) * mem 48 p ≤ 9999
abbrev PGS (mem : Int → Int → Int) : Prop := 0 ≤ mem 35 33 ∧ mem 35 33 ≤ 12 ∧ ∀ p : Int, 0 ≤ p → p ≤ mem 35 33 - 1 → PG mem p
abbrev isPg (mem : Int → Int → Int) (p : Int) : Prop := 0 ≤ p ∧ p ≤ mem 35 33 - 1
abbrev isLn (mem : Int → Int → Int) (p n : Int) : Prop := isPg mem p ∧ 0 ≤ n ∧ n ≤ mem 47 p - 1
def pivC (m o : Int) : Nat → Int
  | 0 => 0
  | k + 1 => pivC m o k + (if (k : Int) % m > o then 0 else 1)
theorem pivC_bd (m o : Int) : ∀ k : Nat, 0 ≤ pivC m o k ∧ pivC m o k ≤ k := by
  intro k
  induction k with
  | zero => simp [pivC]
  | succ k ih => unfold pivC; split <;> omega
def pagedA (mem : Int → Int → Int) (p w : Int) : Int := if isPg mem p then (if w = 0 then mem 45 p else if w = 1 then mem 47 p else if w = 2 then mem 48 p else if w = 3 then mem 49 p else if w = 4 then mem 50 p else if w = 5 then mem 51 p else if w = 6 then mem 52 p else if w = 7 then mem 53 p else if w = 8 then (mem 47 p + mem 52 p - 1) / mem 52 p else if w = 9 then pivC (mem 52 p) (mem 49 p) (mem 47 p).toNat else -1) else -1
def linedA (mem : Int → Int → Int) (p n w : Int) : Int := if isLn mem p n then (if w = 0 then mem 46 p + n * mem 48 p else if w = 1 then n / mem 52 p else if w = 2 then n % mem 52 p else if w = 3 then mem 54 (40 * p + n) else if w = 4 then mem 55 (40 * p + n) else if w = 5 then mem 56 (40 * p + n) else if w = 6 then mem 58 (40 * p + n) else -1) else -1
def nearP (mem : Int → Int → Int) (p : Int) : Int → Int := nearL mem (mem 45 p) (mem 46 p) (mem 48 p) (mem 50 p + mem 51 p)
theorem rowN_congr {nr ad ad' : Int → Int} {o m : Nat} (ho : o ≤ 4) : ∀ n : Nat, (∀ i : Int, 0 ≤ i → i < 5 * (n : Int) + 5 → ad i = ad' i) → rowN nr ad o m n = rowN nr ad' o m n := by
  intro n
  induction n with
  | zero => intro _; rfl
  | succ n ih =>
    intro h
    unfold rowN
    rw [ih (fun i h1 h2 => h i h1 (by omega))]
    by_cases hc : (n + 1) % m ≤ o
    · rw [if_pos hc, if_pos hc]
    · rw [if_neg hc, if_neg hc]
      funext j
      have : ∀ d : Nat, d ≤ o → stepR o (rowN nr ad' o m n) (fun i => ad (5 * ((n + 1 : Nat) : Int) + i)) d = stepR o (rowN nr ad' o m n) (fun i => ad' (5 * ((n + 1 : Nat) : Int) + i)) d := by
        intro d
        induction d with
        | zero => intro _; rfl
        | succ d ihd =>
          intro hd
          unfold stepR
          rw [ihd (by omega), h _ (by omega) (by omega)]
      exact this _ (by omega)
theorem numF_congr {nr ad ad' : Int → Int} {o m n : Int} (ho : o ≤ 4) (hn : 0 ≤ n) (h : ∀ i : Int, 0 ≤ i → i < 5 * n + 5 → ad i = ad' i) : numF nr ad o m n = numF nr ad' o m n := by
  unfold numF numN
  rw [rowN_congr (by omega) n.toNat (fun i h1 h2 => h i h1 (by omega)), h _ (by omega) (by omega)]
theorem rowF_congr {nr ad ad' : Int → Int} {o m n j : Int} (ho : o ≤ 4) (hn : 0 ≤ n) (h : ∀ i : Int, 0 ≤ i → i < 5 * n + 5 → ad i = ad' i) : rowF nr ad o m n j = rowF nr ad' o m n j := by
  unfold rowF
  rw [rowN_congr (by omega) n.toNat (fun i h1 h2 => h i h1 (by omega))]
/-- only the rows of figures have changed -/
def FR (mem mm : Int → Int → Int) : Prop := ∀ a j : Int, a ≠ 59 → a ≠ 60 → a ≠ 61 → a ≠ 62 → mm a j = mem a j
/-- the figures of page p with additions ad stand in the rows -/
def PD (mem mm : Int → Int → Int) (p : Int) (ad : Int → Int) : Prop :=
  FR mem mm ∧ (∀ i : Int, 0 ≤ i → i < mem 47 p → mm 61 i = numF (nearP mem p) ad (mem 49 p) (mem 52 p) i) ∧ (∀ i j : Int, 0 ≤ i → i < mem 47 p → mem 49 p ≤ i % mem 52 p → 0 ≤ j → j ≤ mem 49 p → mm 60 (5 * i + j) = rowF (nearP mem p) ad (mem 49 p) (mem 52 p) i j)
theorem FR.rf {mem : Int → Int → Int} : FR mem mem := fun _ _ _ _ _ _ => rfl
theorem FR.tr {a b c : Int → Int → Int} (h1 : FR a b) (h2 : FR b c) : FR a c := fun x j q1 q2 q3 q4 => (h2 x j q1 q2 q3 q4).trans (h1 x j q1 q2 q3 q4)
theorem nearP_congr {mem mm : Int → Int → Int} {p : Int} (h : FR mem mm) : nearP mm p = nearP mem p := by
  unfold nearP nearL
  rw [h 45 p (by decide) (by decide) (by decide) (by decide), h 46 p (by decide) (by decide) (by decide) (by decide), h 48 p (by decide) (by decide) (by decide) (by decide), h 50 p (by decide) (by decide) (by decide) (by decide), h 51 p (by decide) (by decide) (by decide) (by decide), h 36 _ (by decide) (by decide) (by decide) (by decide), h 37 _ (by decide) (by decide) (by decide) (by decide), h 38 _ (by decide) (by decide) (by decide) (by decide)]
theorem PG_congr {mem mm : Int → Int → Int} {p : Int} (h : FR mem mm) (hp : PG mem p) : PG mm p := by
  unfold PG FN
  rw [h 45 p (by decide) (by decide) (by decide) (by decide), h 46 p (by decide) (by decide) (by decide) (by decide), h 47 p (by decide) (by decide) (by decide) (by decide), h 48 p (by decide) (by decide) (by decide) (by decide), h 49 p (by decide) (by decide) (by decide) (by decide), h 50 p (by decide) (by decide) (by decide) (by decide), h 51 p (by decide) (by decide) (by decide) (by decide), h 52 p (by decide) (by decide) (by decide) (by decide), h 53 p (by decide) (by decide) (by decide) (by decide), h 36 _ (by decide) (by decide) (by decide) (by decide), h 37 _ (by decide) (by decide) (by decide) (by decide), h 38 _ (by decide) (by decide) (by decide) (by decide)]
  exact hp
/-- made with additions that stand in row 59 of m1 -/
theorem PD.of {mem m1 mm : Int → Int → Int} {p : Int} {ad : Int → Int} (hp : PG mem p) (h1 : FR mem m1) (ha : ∀ i : Int, 0 ≤ i → i < 200 → m1 59 i = ad i) (h : MK m1 mm (nearP m1 p) (m1 49 p) (m1 52 p) (m1 47 p)) : PD mem mm p ad := by
  have e49 := h1 49 p (by decide) (by decide) (by decide) (by decide)
  have e52 := h1 52 p (by decide) (by decide) (by decide) (by decide)
  have e47 := h1 47 p (by decide) (by decide) (by decide) (by decide)
  rw [nearP_congr h1, e49, e52, e47] at h
  refine ⟨fun a j q1 q2 q3 q4 => (h.2.1 a j q2 q3 q4).trans (h1 a j q1 q2 q3 q4), fun i h2 h3 => ?_, fun i j h2 h3 h4 h5 h6 => ?_⟩
  · rw [h.2.2.1 i h2 h3]
    exact numF_congr (by omega) h2 (fun k h7 h8 => ha k h7 (by omega))
  · rw [h.2.2.2 i j h2 h3 h4 h5 h6]
    exact rowF_congr (by omega) h2 (fun k h7 h8 => ha k h7 (by omega))
/-! slips -/
abbrev cntS (mem : Int → Int → Int) (s q : Int) : Prop := mem 67 s ≤ q ∧ (mem 68 s = -1 ∨ mem 68 s > q)
def slotV (c : Int) : Int := if c = 9 then 4 else c
/-- what slips are added at place i, of the first so many -/
def adN (mem : Int → Int → Int) (p q : Int) : Nat → Int → Int
  | 0 => fun _ => 0
  | s + 1 => fun i => adN mem p q s i + (if mem 63 s = p ∧ cntS mem s q ∧ 5 * mem 64 s + slotV (mem 65 s) = i then mem 66 s else 0)
def adS (mem : Int → Int → Int) (p q : Int) : Int → Int := adN mem p q (mem 35 45).toNat
abbrev SL (mem : Int → Int → Int) (s : Int) : Prop := 0 ≤ mem 63 s ∧ mem 63 s ≤ mem 35 33 - 1 ∧ 0 ≤ mem 64 s ∧ mem 64 s < mem 47 (mem 63 s) ∧ mem 64 s % mem 52 (mem 63 s) > mem 49 (mem 63 s) ∧ (mem 65 s = 9 ∨ (0 ≤ mem 65 s ∧ mem 65 s ≤ mem 49 (mem 63 s) - 1)) ∧ mem 66 s ≠ 0 ∧ -1000000 ≤ mem 66 s ∧ mem 66 s ≤ 1000000 ∧ 0 ≤ mem 67 s ∧ mem 67 s ≤ mem 35 0 ∧ -1 ≤ mem 68 s ∧ mem 68 s ≤ mem 35 0
abbrev SLS (mem : Int → Int → Int) : Prop := 0 ≤ mem 35 45 ∧ mem 35 45 ≤ 60 ∧ ∀ s : Int, 0 ≤ s → s ≤ mem 35 45 - 1 → SL mem s
abbrev slipC (mem : Int → Int → Int) (p n c am : Int) : Prop := isLn mem p n ∧ n % mem 52 p > mem 49 p ∧ (c = 9 ∨ (0 ≤ c ∧ c ≤ mem 49 p - 1)) ∧ (-1000000 ≤ am ∧ am ≤ 1000000) ∧ am ≠ 0 ∧ mem 35 45 ≠ 60
def slipM (mem : Int → Int → Int) (p n c am : Int) : Int → Int → Int := set2 (set2 (set2 (set2 (set2 (set2 (set2 mem 63 (mem 35 45) p) 64 (mem 35 45) n) 65 (mem 35 45) c) 66 (mem 35 45) am) 67 (mem 35 45) (mem 35 0)) 68 (mem 35 45) (-1)) 35 45 (mem 35 45 + 1)
abbrev mendC (mem : Int → Int → Int) (s : Int) : Prop := (0 ≤ s ∧ s ≤ mem 35 45 - 1) ∧ mem 68 s = -1
/-- figures of a page -/
def numQ (mem : Int → Int → Int) (p n q : Int) : Int := numF (nearP mem p) (adS mem p q) (mem 49 p) (mem 52 p) n
def numT (mem : Int → Int → Int) (p n : Int) : Int := numF (nearP mem p) (fun _ => 0) (mem 49 p) (mem 52 p) n
def colQ (mem : Int → Int → Int) (p n c q : Int) : Int := rowF (nearP mem p) (adS mem p q) (mem 49 p) (mem 52 p) n c
def rightV (mem : Int → Int → Int) (p n : Int) : Int := nearV (mem 36 (mem 45 p)) (mem 37 (mem 45 p)) (mem 38 (mem 45 p)) (mem 46 p + n * mem 48 p) (mem 50 p) (mem 53 p)
def keptV (mem : Int → Int → Int) (p v : Int) : Int := nearBy (wL v) (10 ^ (mem 51 p).toNat) (mem 53 p)
abbrev isKn (mem : Int → Int → Int) (q : Int) : Prop := 0 ≤ q ∧ q ≤ mem 35 0
abbrev figC (mem : Int → Int → Int) (p n c q : Int) : Prop := isLn mem p n ∧ isKn mem q ∧ (c = 9 ∨ ((0 ≤ c ∧ c ≤ mem 49 p) ∧ n % mem 52 p ≥ mem 49 p))
/-- binomials -/
def chN (n : Int) : Nat → Int
  | 0 => 1
  | i + 1 => chN n i * (n - i) / (i + 1)
theorem chN_bd {n : Int} (h1 : n ≤ 40) : ∀ k : Nat, (k : Int) ≤ n → 0 ≤ chN n k ∧ chN n k ≤ 40 ^ k := by
  intro k
  induction k with
  | zero => intro _; simp [chN]
  | succ k ih =>
    intro h
    obtain ⟨a, b⟩ := ih (by omega)
    have c := mul_bd (a := chN n k) (b := n - k) (M := 40 ^ k) (N := 40) ⟨a, b⟩ (by omega)
    unfold chN
    refine ⟨Int.ediv_nonneg c.1 (by omega), ?_⟩
    have := Int.ediv_le_self ((k : Int) + 1) c.1
    rw [Int.pow_succ]
    omega
def bndN (i o : Int) : Nat → Int
  | 0 => 0
  | j + 1 => bndN i o j + chN i j * chN (i - j - 1) (o - j).toNat
def boundV (mem : Int → Int → Int) (p n : Int) : Int := if n % mem 52 p > mem 49 p then (bndN (n % mem 52 p) (mem 49 p) (mem 49 p + 1).toNat + 1) / 2 else 1
theorem pow40 {k : Nat} (h : k ≤ 5) : (40 : Int) ^ k ≤ 102400000 := by
  rcases (show k = 0 ∨ k = 1 ∨ k = 2 ∨ k = 3 ∨ k = 4 ∨ k = 5 by omega) with rfl | rfl | rfl | rfl | rfl | rfl <;> decide
theorem chN_5 {n : Int} (h1 : n ≤ 40) {k : Nat} (h : (k : Int) ≤ n) (hk : k ≤ 5) : 0 ≤ chN n k ∧ chN n k ≤ 102400000 := by
  have a := chN_bd h1 k h
  have b := pow40 hk
  omega
theorem bndN_bd {i o : Int} (h0 : o + 1 ≤ i) (hi : i ≤ 39) (ho : 0 ≤ o ∧ o ≤ 4) : ∀ j : Nat, (j : Int) ≤ o + 1 → 0 ≤ bndN i o j ∧ bndN i o j ≤ j * 10485760000000000 := by
  intro j
  induction j with
  | zero => intro _; simp [bndN]
  | succ j ih =>
    intro h
    have a := ih (by omega)
    have b := chN_5 (n := i) (by omega) (k := j) (by omega) (by omega)
    have c := chN_5 (n := i - j - 1) (by omega) (k := (o - j).toNat) (by omega) (by omega)
    have d := mul_bd b c
    unfold bndN
    omega
def safeA (mem : Int → Int → Int) (p n : Int) : Int := if isLn mem p n then (if mem 51 p = 0 then (if n % mem 52 p > mem 49 p then 0 else 1) else (if (if wL (numT mem p n) % 10 ^ (mem 51 p).toNat - 10 ^ (mem 51 p).toNat / 2 < 0 then -(wL (numT mem p n) % 10 ^ (mem 51 p).toNat - 10 ^ (mem 51 p).toNat / 2) else wL (numT mem p n) % 10 ^ (mem 51 p).toNat - 10 ^ (mem 51 p).toNat / 2) < boundV mem p n + mem 35 46 then 0 else 1)) else -1
/-- the call's own word: it was refused -/
def thr (mem : Int → Int → Int) (t : Int) : Int → Int → Int := set2 mem 35 1 t
def wrongN (mem : Int → Int → Int) (p q : Int) : Nat → Int
  | 0 => 0
  | n + 1 => wrongN mem p q n + (if keptV mem p (numQ mem p n q) = rightV mem p n then 0 else 1)
theorem wrongN_bd (mem : Int → Int → Int) (p q : Int) : ∀ k : Nat, 0 ≤ wrongN mem p q k ∧ wrongN mem p q k ≤ k := by
  intro k
  induction k with
  | zero => simp [wrongN]
  | succ k ih => unfold wrongN; split <;> omega
end SPEC2
