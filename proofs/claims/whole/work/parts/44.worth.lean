section
theorem mulI {a b : Int} (ha : InI a) (hb : InI b) : -4611686018427387904 ≤ a * b ∧ a * b ≤ 4611686018427387904 := by
  have key : (a * b).natAbs ≤ 2147483648 * 2147483648 := by
    rw [Int.natAbs_mul]
    exact Nat.mul_le_mul (by omega) (by omega)
  omega
theorem tdivI {a : Int} (b : Int) (ha : InI a) : -2147483648 ≤ a.tdiv b ∧ a.tdiv b ≤ 2147483648 := by
  have h1 : (a.tdiv b).natAbs ≤ a.natAbs := by rw [Int.natAbs_tdiv]; exact Nat.div_le_self _ _
  generalize a.tdiv b = e at *
  omega
theorem tmodI {a : Int} (b : Int) (ha : InI a) : -2147483648 ≤ a.tmod b ∧ a.tmod b ≤ 2147483648 := by
  have h1 : (a.tmod b).natAbs ≤ a.natAbs := by rw [Int.natAbs_tmod]; exact Nat.mod_le _ _
  generalize a.tmod b = e at *
  omega
/-- the pile: top first -/
def PIL (f : Int → Int) : List Int → Prop
  | [] => True
  | x :: s => f (s.length) = x ∧ PIL f s
theorem PIL.congr {f f' : Int → Int} : ∀ {s : List Int}, PIL f s → (∀ j : Int, 0 ≤ j → j < s.length → f' j = f j) → PIL f' s := by
  intro s
  induction s with
  | nil => intro _ _; trivial
  | cons x s ih =>
    intro h he
    rw [List.length_cons] at he
    exact ⟨by rw [he _ (by omega) (by omega)]; exact h.1, ih h.2 (fun j q1 q2 => he j q1 (by omega))⟩
theorem op1_no {x : Int} (h1 : x ≠ 33) (h2 : ¬ isOp x) (st : Option (List Int)) : op1 x st = none := by
  match st with
  | none => rfl
  | some [] => rfl
  | some [a] => exact if_neg h1
  | some (b :: a :: s) => exact (if_neg h1).trans (if_neg h2)
theorem run_bad (env : Int → Int) {x : Int} (hx : x = 2 ∨ x = 3) (r : List Int) (st : Option (List Int)) : runC env (x :: r) st = none := by
  rw [run_op env (by omega) (by omega)]
  have : op1 x st = none := by
    match st with
    | none => rfl
    | some [] => rfl
    | some [a] => exact if_neg (by omega)
    | some (b :: a :: s) => exact (if_neg (by omega)).trans (if_neg (by omega))
  rw [this]
  exact run_none env _ r (Nat.le_refl _)
theorem W_end {env : Int → Int} {rest st : List Int} {w : Int} (h : runC env rest (some st) = some [w]) {f : Int → Int} {b t : Int} (hs : SG f b (rest ++ [t])) (hx : f b = 2 ∨ f b = 3) : rest = [] ∧ st = [w] := by
  cases rest with
  | nil => exact ⟨rfl, by cases h; rfl⟩
  | cons x r =>
    have h1 : f b = x := hs.1
    rw [run_bad env (by omega)] at h
    cases h
/-- what a step of the work leaves -/
def WST (env : Int → Int) (f : Int → Int) (b t w : Int) (rest st : List Int) (n : Nat) (rest2 st2 : List Int) : Prop :=
  rest.length = rest2.length + n ∧ (∀ x ∈ rest2, x ∈ rest) ∧ SG f (b + n) (rest2 ++ [t]) ∧ runC env rest2 (some st2) = some [w]
theorem W_num {env : Int → Int} {rest st : List Int} {w : Int} (h : runC env rest (some st) = some [w]) {f : Int → Int} {b t : Int} (ht : t = 2 ∨ t = 3) (hs : SG f b (rest ++ [t])) (hx : f b = 0) : ∃ rest2 st2, WST env f b t w rest st 2 rest2 st2 ∧ f (b + 1) ∈ rest ∧ st2 = f (b + 1) :: st := by
  match rest, h, hs with
  | [], _, hs => have h1 : f b = t := hs.1; omega
  | [x], h, hs =>
    have h1 : f b = x := hs.1
    rw [← h1, hx] at h
    exfalso
    rw [show runC env [0] (some st) = none from op1_no (by decide) (by decide) _] at h
    cases h
  | x :: y :: r, h, hs =>
    have h1 : f b = x := hs.1
    have h2 : f (b + 1) = y := hs.2.1
    rw [← h1, hx, run_0] at h
    exact ⟨r, y :: st, ⟨by simp, fun q hq => by simp [hq], by have := hs.2.2; rw [show b + 1 + 1 = b + ((2 : Nat) : Int) by omega] at this; exact this, h⟩, by rw [h2]; simp, by rw [h2]⟩
theorem W_let {env : Int → Int} {rest st : List Int} {w : Int} (h : runC env rest (some st) = some [w]) {f : Int → Int} {b t : Int} (ht : t = 2 ∨ t = 3) (hs : SG f b (rest ++ [t])) (hx : f b = 1) : ∃ rest2 st2, WST env f b t w rest st 2 rest2 st2 ∧ (f (b + 1) = 98 ∨ f (b + 1) = 110 ∨ f (b + 1) = 120) ∧ st2 = env (f (b + 1)) :: st := by
  match rest, h, hs with
  | [], _, hs => have h1 : f b = t := hs.1; omega
  | [x], h, hs =>
    have h1 : f b = x := hs.1
    rw [← h1, hx] at h
    exfalso
    rw [show runC env [1] (some st) = none from op1_no (by decide) (by decide) _] at h
    cases h
  | x :: y :: r, h, hs =>
    have h1 : f b = x := hs.1
    have h2 : f (b + 1) = y := hs.2.1
    rw [← h1, hx] at h
    by_cases hy : y = 98 ∨ y = 110 ∨ y = 120
    · rw [run_1 env hy] at h
      exact ⟨r, env y :: st, ⟨by simp, fun q hq => by simp [hq], by have := hs.2.2; rw [show b + 1 + 1 = b + ((2 : Nat) : Int) by omega] at this; exact this, h⟩, by rw [h2]; exact hy, by rw [h2]⟩
    · rw [runC, if_neg (by decide), if_pos rfl, if_neg hy] at h
      cases h
theorem W_op {env : Int → Int} {rest st : List Int} {w : Int} (h : runC env rest (some st) = some [w]) {f : Int → Int} {b t : Int} (ht : t = 2 ∨ t = 3) (hs : SG f b (rest ++ [t])) (h0 : f b ≠ 0) (h1 : f b ≠ 1) (h2 : f b ≠ 2) (h3 : f b ≠ 3) : (∃ rest2 st2 a s, f b = 33 ∧ WST env f b t w rest st 1 rest2 st2 ∧ st = a :: s ∧ st2 = notV a :: s) ∨ ∃ rest2 st2 a c s, f b ≠ 33 ∧ isOp (f b) ∧ WST env f b t w rest st 1 rest2 st2 ∧ st = c :: a :: s ∧ st2 = bothV (f b) a c :: s := by
  match rest, h, hs with
  | [], _, hs => have h1 : f b = t := hs.1; omega
  | x :: r, h, hs =>
    have e1 : f b = x := hs.1
    have e2 : SG f (b + ((1 : Nat) : Int)) (r ++ [t]) := hs.2
    rw [← e1, run_op env h0 h1] at h
    match st, h with
    | [], h => rw [show op1 (f b) (some []) = none from rfl, run_none env _ r (Nat.le_refl _)] at h; cases h
    | [a], h =>
      by_cases e : f b = 33
      · rw [e, op1_not] at h
        exact Or.inl ⟨r, _, a, [], e, ⟨by simp, fun q hq => by simp [hq], e2, h⟩, rfl, rfl⟩
      · rw [show op1 (f b) (some [a]) = none from if_neg e, run_none env _ r (Nat.le_refl _)] at h; cases h
    | c :: a :: s, h =>
      by_cases e : f b = 33
      · rw [e, op1_not] at h
        exact Or.inl ⟨r, _, c, a :: s, e, ⟨by simp, fun q hq => by simp [hq], e2, h⟩, rfl, rfl⟩
      · by_cases ho : isOp (f b)
        · rw [op1_bin ho] at h
          exact Or.inr ⟨r, _, a, c, s, e, ho, ⟨by simp, fun q hq => by simp [hq], e2, h⟩, rfl, rfl⟩
        · rw [show op1 (f b) (some (c :: a :: s)) = none from (if_neg e).trans (if_neg ho), run_none env _ r (Nat.le_refl _)] at h; cases h
def envF (n b x : Int) : Int → Int := fun c => if c = 110 then n else if c = 98 then b else x
theorem run_congr {env env' : Int → Int} (he : env 98 = env' 98 ∧ env 110 = env' 110 ∧ env 120 = env' 120) : ∀ (n : Nat) (c : List Int) (st : Option (List Int)), c.length ≤ n → runC env c st = runC env' c st := by
  intro n
  induction n with
  | zero => intro c st h; cases c with
    | nil => rfl
    | cons x c => simp at h
  | succ n ih =>
    intro c st h
    match c, h with
    | [], _ => rfl
    | [x], _ => rfl
    | x :: y :: r, h =>
      simp only [List.length_cons] at h
      rw [runC, runC]
      by_cases h0 : x = 0
      · rw [if_pos h0, if_pos h0]; exact ih r _ (by omega)
      · rw [if_neg h0, if_neg h0]
        by_cases h1 : x = 1
        · rw [if_pos h1, if_pos h1]
          by_cases hy : y = 98 ∨ y = 110 ∨ y = 120
          · rw [if_pos hy, if_pos hy]
            have : env y = env' y := by rcases hy with rfl | rfl | rfl; exact he.1; exact he.2.1; exact he.2.2
            rw [this]
            exact ih r _ (by omega)
          · rw [if_neg hy, if_neg hy]
        · rw [if_neg h1, if_neg h1]; exact ih (y :: r) _ (by simp only [List.length_cons]; omega)
/-- what is left of a plan's codes at a clause -/
theorem clsL_acc {T : Int → Int} {L : Int} (c0 : List Int) : ∀ (k : Nat) (a : Int) (c : List Int), clsL T L k a (c0 ++ c) = bnd (clsL T L k a c) (fun a' c' => okP a' (c0 ++ c')) ∨ ¬ (0 ≤ a ∧ a ≤ L) := by
  intro k
  induction k with
  | zero => intro a c; by_cases h : 0 ≤ a ∧ a ≤ L; exact Or.inl (by rw [clsL, clsL, bnd_er (by omega)]); exact Or.inr h
  | succ k ih =>
    intro a c
    by_cases h : 0 ≤ a ∧ a ≤ L
    · left
      have hg := clP_gd T L h.1 h.2
      rw [clsL, clsL]
      by_cases e : (clP T L a).1 ≠ -1
      · rw [if_pos e, if_pos e, bnd_er e]
      · rw [if_neg e, if_neg e]
        have hh := hg.1 (by omega)
        obtain ⟨s1, s2, -⟩ := skp_f T L (clP T L a).2.1
        have s3 := s2 hh.2.1
        by_cases e1 : chr T L (skp T L (clP T L a).2.1) = 59
        · have : skp T L (clP T L a).2.1 < L := chr_lt T (by omega)
          rw [if_pos e1, if_pos e1, List.append_assoc]
          rcases ih (skp T L (clP T L a).2.1 + 1) (c ++ enC (clP T L a)) with q | q
          · exact q
          · exact absurd ⟨by omega, by omega⟩ q
        · rw [if_neg e1, if_neg e1]
          by_cases e2 : chr T L (skp T L (clP T L a).2.1) = -1
          · rw [if_pos e2, if_pos e2, bnd_ok, List.append_assoc]
          · rw [if_neg e2, if_neg e2, bnd_er (by omega)]
    · exact Or.inr h
theorem clsL_split {T : Int → Int} {L : Int} {k : Nat} {a : Int} (h0 : 0 ≤ a) (h1 : a ≤ L) (h : (clsL T L (k + 1) a []).1 = -1) : (clP T L a).1 = -1 ∧ CGD T L a (clP T L a) ∧
    ((chr T L (skp T L (clP T L a).2.1) = 59 ∧ skp T L (clP T L a).2.1 < L ∧ (clsL T L k (skp T L (clP T L a).2.1 + 1) []).1 = -1 ∧ (clsL T L (k + 1) a []).2.2 = enC (clP T L a) ++ (clsL T L k (skp T L (clP T L a).2.1 + 1) []).2.2) ∨ (chr T L (skp T L (clP T L a).2.1) ≠ 59 ∧ (clsL T L (k + 1) a []).2.2 = enC (clP T L a))) := by
  have hg := clP_gd T L h0 h1
  rw [clsL] at h ⊢
  by_cases e : (clP T L a).1 ≠ -1
  · rw [if_pos e] at h; exact absurd h e
  · rw [if_neg e] at h ⊢
    have hh := hg.1 (by omega)
    obtain ⟨s1, s2, -⟩ := skp_f T L (clP T L a).2.1
    have s3 := s2 hh.2.1
    refine ⟨by omega, hg, ?_⟩
    by_cases e1 : chr T L (skp T L (clP T L a).2.1) = 59
    · have hlt : skp T L (clP T L a).2.1 < L := chr_lt T (by omega)
      rw [if_pos e1] at h ⊢
      left
      have hq := clsL_acc (T := T) (L := L) (enC (clP T L a)) k (skp T L (clP T L a).2.1 + 1) []
      rw [List.append_nil] at hq
      rw [List.nil_append] at h ⊢
      rcases hq with q | q
      · rw [q] at h ⊢
        by_cases e3 : (clsL T L k (skp T L (clP T L a).2.1 + 1) []).1 = -1
        · rw [bnd_is e3]
          exact ⟨e1, hlt, e3, rfl⟩
        · rw [bnd_no e3] at h
          exact absurd h e3
      · exact absurd ⟨by omega, by omega⟩ q
    · rw [if_neg e1] at h ⊢
      right
      by_cases e2 : chr T L (skp T L (clP T L a).2.1) = -1
      · rw [if_pos e2]
        exact ⟨e1, by rw [List.nil_append]; rfl⟩
      · rw [if_neg e2] at h
        have : skp T L (clP T L a).2.1 = -1 := h
        omega
theorem W_not {env : Int → Int} {rest st : List Int} {w : Int} (h : runC env rest (some st) = some [w]) {f : Int → Int} {b t : Int} (ht : t = 2 ∨ t = 3) (hs : SG f b (rest ++ [t])) (hx : f b = 33) : ∃ rest2 st2 a s, WST env f b t w rest st 1 rest2 st2 ∧ st = a :: s ∧ st2 = notV a :: s := by
  rcases W_op h ht hs (by omega) (by omega) (by omega) (by omega) with ⟨r2, s2, a, s, q1, q2, q3, q4⟩ | ⟨r2, s2, a, c, s, q1, q2⟩
  · exact ⟨r2, s2, a, s, q2, q3, q4⟩
  · exact absurd hx q1
theorem W_bin {env : Int → Int} {rest st : List Int} {w : Int} (h : runC env rest (some st) = some [w]) {f : Int → Int} {b t : Int} (ht : t = 2 ∨ t = 3) (hs : SG f b (rest ++ [t])) (h0 : f b ≠ 0) (h1 : f b ≠ 1) (h2 : f b ≠ 2) (h3 : f b ≠ 3) (hx : f b ≠ 33) : ∃ rest2 st2 a c s, isOp (f b) ∧ WST env f b t w rest st 1 rest2 st2 ∧ st = c :: a :: s ∧ st2 = bothV (f b) a c :: s := by
  rcases W_op h ht hs h0 h1 h2 h3 with ⟨r2, s2, a, s, q1, q2⟩ | ⟨r2, s2, a, c, s, q1, q2, q3, q4, q5⟩
  · exact absurd q1 hx
  · exact ⟨r2, s2, a, c, s, q2, q3, q4, q5⟩
theorem SG_hd {f : Int → Int} {b t : Int} {rest : List Int} (hs : SG f b (rest ++ [t])) (hv : ∀ x ∈ rest, 0 ≤ x ∧ x ≤ 9999) (ht : t = 2 ∨ t = 3) : 0 ≤ f b ∧ f b ≤ 9999 := by
  cases rest with
  | nil => have : f b = t := hs.1; omega
  | cons x r => have : f b = x := hs.1; rw [this]; exact hv x (by simp)
abbrev WKF (mem mm : Int → Int → Int) : Prop := ∀ a j : Int, a ≠ 44 → ¬ (a = 35 ∧ j = 19) → mm a j = mem a j
abbrev WOF (mem mm : Int → Int → Int) : Prop := ∀ a j : Int, a ≠ 43 → a ≠ 44 → ¬ (a = 35 ∧ j = 19) → mm a j = mem a j
theorem PIL.push {f f' : Int → Int} {s : List Int} {x : Int} (h : PIL f s) (hx : f' s.length = x) (he : ∀ j : Int, j ≠ s.length → f' j = f j) : PIL f' (x :: s) := ⟨hx, h.congr (fun j q1 q2 => he j (by omega))⟩
/-- a plan's reading at a clause -/
def WOJ (T : Int → Int) (L : Int) (env : Int → Int) (lab tg : Int) (rem : List Int) (a : Int) (k : Nat) : Prop :=
  (rem = [] ∧ tg = 0) ∨ (0 ≤ a ∧ a ≤ L ∧ L - a < k ∧ (clsL T L k a []).1 = -1 ∧ (clsL T L k a []).2.2 = rem ∧ worL T L env lab k a = tg)
theorem WOJ.step {T : Int → Int} {L : Int} {env : Int → Int} {lab tg : Int} {rem : List Int} {a : Int} {k : Nat} (h : WOJ T L env lab tg rem a k) (hne : rem ≠ []) (he : ∀ x, InI (env x)) : ∃ (l1 : Int) (C S rem2 : List Int) (a2 : Int) (k2 : Nat) (v1 v2 : Int), rem = l1 :: (C ++ (2 :: (S ++ (3 :: rem2)))) ∧ isLb l1 ∧ (∀ x ∈ C, 0 ≤ x ∧ x ≤ 9999) ∧ (∀ x ∈ S, 0 ≤ x ∧ x ≤ 9999) ∧ runC env C (some []) = some [v1] ∧ runC env S (some []) = some [v2] ∧ InI v1 ∧ InI v2 ∧ (l1 = lab ∧ v1 ≠ 0 → tg = v2) ∧ (¬ (l1 = lab ∧ v1 ≠ 0) → WOJ T L env lab tg rem2 a2 k2) := by
  rcases h with ⟨h, -⟩ | ⟨h0, h1, h2, h3, h4, h5⟩
  · exact absurd h hne
  · obtain ⟨k, rfl⟩ : ∃ j, k = j + 1 := ⟨k - 1, by omega⟩
    obtain ⟨c1, c2, c3⟩ := clsL_split h0 h1 h3
    obtain ⟨g1, g2, g3, g4, g5, g6, g7, g8⟩ := c2.1 c1
    obtain ⟨v1, e1⟩ := g7 env he
    obtain ⟨v2, e2⟩ := g8 env he
    obtain ⟨s1, s2, -⟩ := skp_f T L (clP T L a).2.1
    have hw := h5
    rw [worL, e1.val, e2.val] at hw
    have hC : ∀ x ∈ (clP T L a).2.2.2.1, 0 ≤ x ∧ x ≤ 9999 := fun x hx => g5 x (by unfold enC; simp [hx])
    have hS : ∀ x ∈ (clP T L a).2.2.2.2, 0 ≤ x ∧ x ≤ 9999 := fun x hx => g5 x (by unfold enC; simp [hx])
    rcases c3 with ⟨d1, d2, d3, d4⟩ | ⟨d1, d2⟩
    · refine ⟨(clP T L a).2.2.1, (clP T L a).2.2.2.1, (clP T L a).2.2.2.2, (clsL T L k (skp T L (clP T L a).2.1 + 1) []).2.2, skp T L (clP T L a).2.1 + 1, k, v1, v2, ?_, g3, hC, hS, e1.run, e2.run, e1.1, e2.1, fun q => ?_, fun q => Or.inr ⟨by omega, by omega, by omega, d3, rfl, ?_⟩⟩
      · rw [← h4, d4]
        unfold enC
        simp
      · rw [if_pos q] at hw; exact hw.symm
      · rw [if_neg q, if_pos d1] at hw; exact hw
    · refine ⟨(clP T L a).2.2.1, (clP T L a).2.2.2.1, (clP T L a).2.2.2.2, [], 0, 0, v1, v2, ?_, g3, hC, hS, e1.run, e2.run, e1.1, e2.1, fun q => ?_, fun q => Or.inl ⟨rfl, ?_⟩⟩
      · rw [← h4, d2]
        unfold enC
        simp
      · rw [if_pos q] at hw; exact hw.symm
      · rw [if_neg q, if_neg d1] at hw; exact hw.symm
theorem envF_in {n b x : Int} (hn : InI n) (hb : InI b) (hx : InI x) : ∀ y, InI (envF n b x y) := by
  intro y
  unfold envF
  split
  · exact hn
  · split
    · exact hb
    · exact hx
theorem worL_in {T : Int → Int} {L : Int} {env : Int → Int} {lab : Int} (he : ∀ x, InI (env x)) : ∀ (k : Nat) (a : Int), 0 ≤ a → a ≤ L → (clsL T L k a []).1 = -1 → InI (worL T L env lab k a) := by
  intro k
  induction k with
  | zero => intro a h0 h1 h; have : a = -1 := h; omega
  | succ k ih =>
    intro a h0 h1 h
    obtain ⟨c1, c2, c3⟩ := clsL_split h0 h1 h
    obtain ⟨g1, g2, g3, g4, g5, g6, g7, g8⟩ := c2.1 c1
    obtain ⟨v2, e2⟩ := g8 env he
    obtain ⟨s1, s2, -⟩ := skp_f T L (clP T L a).2.1
    rw [worL]
    split
    · rw [e2.val]; exact e2.1
    · split
      · rename_i q
        rcases c3 with ⟨d1, d2, d3, d4⟩ | ⟨d1, d2⟩
        · exact ih _ (by omega) (by omega) d3
        · exact absurd q d1
      · exact ⟨by omega, by omega⟩
theorem worV_in {T : Int → Int} {L : Int} {env : Int → Int} {lab : Int} (he : ∀ x, InI (env x)) (h0 : 0 ≤ L) (h : (fauP T L).1 = -1) : InI (worV T L env lab) := worL_in he 200 0 (Int.le_refl 0) h0 h
set_option maxHeartbeats 4000000 in
set_option maxRecDepth 100000 in
theorem c_X12_bounded {l : Launch} {g : GP} (hG : GH g) {kd : Int → Nat} {ln : Int → Int} {mem : Int → Int → Int} {sz : Nat} (v : Int) (hv : -9000000000000000000 ≤ v ∧ v ≤ 9000000000000000000) : MT l g yX12_bounded cX12_bounded 2 (some .int) 1 0 0 [(1, v)] kd ln mem sz (pV (0, cutV v) kd ln mem sz) := by
  refine MT_of hG (by decide +kernel) (Nat.le_of_ble_eq_true rfl) (fun z hF hr hn => ?_)
  refine jldc2 hF (-1000000) (cst_l wd_1913 (by decide)) (by decide +kernel) ?_
  refine jldc2 hF 1000000 (cst_l wd_1914 (by decide)) (by decide +kernel) ?_
  refine jblk hF [(.lload_n 0, 1)] (by decide +kernel) (pc' := 7) (lo' := [(0, (1, v))]) (st' := [(1, v), (1, 1000000), (1, (-1000000))]) rfl ?_
  refine jcallS hF (c_J9_min_f86c9 hG 1000000 v (by omega) (by omega)) MW_J9_min_f86c9 wd_1915 wd_632 (by decide +kernel) [(1, (-1000000))] rfl rfl (by decide) (Nat.le_of_ble_eq_true rfl) (by decide) (kV ?_)
  refine jcallS hF (c_J9_max_f86c9 hG (-1000000) (if v < 1000000 then v else 1000000) (by omega) (by omega)) MW_J9_max_f86c9 wd_1916 wd_635 (by decide +kernel) [] rfl rfl (by decide) (Nat.le_of_ble_eq_true rfl) (by decide) (kV ?_)
  refine jblk hF [(.l2i, 1)] (by decide +kernel) (pc' := 14) (lo' := [(0, (1, v))]) (st' := [(0, if (-1000000) < (if v < 1000000 then v else 1000000) then (if v < 1000000 then v else 1000000) else (-1000000))]) rfl ?_
  refine jiret hF hr (by decide +kernel) ?_
  exact lV (by unfold cutV; (repeat' split) <;> omega)
set_option maxHeartbeats 4000000 in
set_option maxRecDepth 100000 in
theorem c_X12_both {l : Launch} {g : GP} (hG : GH g) {kd : Int → Nat} {ln : Int → Int} {mem : Int → Int → Int} {sz : Nat} (c a b : Int) (h_c : isOp c) (h_a : InI a) (h_b : InI b) : MT l g yX12_both cX12_both 3 (some .int) 2 0 0 [(0, c), (0, a), (0, b)] kd ln mem sz (pV (0, bothV c a b) kd ln mem sz) := by
  refine MT_of hG (by decide +kernel) (Nat.le_of_ble_eq_true rfl) (fun z hF hr hn => ?_)
  have hm1 := mulI h_a h_b
  have hm2 := tdivI b h_a
  have hm3 := tmodI b h_a
  refine jblk hF [(.iload_n 0, 1)] (by decide +kernel) (pc' := 1) (lo' := [(0, (0, c)), (1, (0, a)), (2, (0, b))]) (st' := [(0, c)]) rfl ?_
  by_cases h_1 : c = 37
  · refine jtabIn hF (dflt := 227) (lo' := 37) (hi := 62) (offs := #[163, 213, 227, 227, 227, 137, 119, 227, 128, 227, 146, 227, 227, 227, 227, 227, 227, 227, 227, 227, 227, 227, 227, 191, 180, 202]) (len := 119) 37 163 164 (by decide +kernel) h_1 (by decide) (by decide) (by decide) rfl (by decide) ?_
    refine jblk hF [(.iload_n 2, 1)] (by decide +kernel) (pc' := 165) (lo' := [(0, (0, c)), (1, (0, a)), (2, (0, b))]) (st' := [(0, b)]) rfl ?_
    refine jif_ne hF (off := 7) 172 (by decide +kernel) (by decide) (by omega) (fun h_2 => ?_) (fun h_2 => ?_)
    · refine jblk hF [(.iload_n 1, 1)] (by decide +kernel) (pc' := 173) (lo' := [(0, (0, c)), (1, (0, a)), (2, (0, b))]) (st' := [(0, a)]) rfl ?_
      refine ji2l hF (by decide +kernel) (by omega) ?_
      refine jblk hF [(.iload_n 2, 1)] (by decide +kernel) (pc' := 175) (lo' := [(0, (0, c)), (1, (0, a)), (2, (0, b))]) (st' := [(0, b), (1, a)]) rfl ?_
      refine ji2l hF (by decide +kernel) (by omega) ?_
      refine jlrem hF (by decide +kernel) (by omega) (by omega) (by omega) ?_
      refine jcallS hF (c_X12_bounded hG (Int.tmod a b) (by omega)) MW_X12_bounded wd_1910 wd_1911 (by decide +kernel) [] rfl rfl (by decide) (Nat.le_of_ble_eq_true rfl) (by decide) (kV ?_)
      have hf_3 := cutV_bd (Int.tmod a b)
      refine jiret hF hr (by decide +kernel) ?_
      exact lV (by unfold bothV; (repeat (first | rw [if_pos (by omega)] | rw [if_neg (by omega)])) <;> first | rfl | omega)
    · refine jblk hF [(.iconst 0, 1)] (by decide +kernel) (pc' := 169) (lo' := [(0, (0, c)), (1, (0, a)), (2, (0, b))]) (st' := [(0, 0)]) rfl ?_
      refine jgoto hF (off := 11) 180 (by decide +kernel) (by decide) ?_
      refine jiret hF hr (by decide +kernel) ?_
      exact lV (by unfold bothV; (repeat (first | rw [if_pos (by omega)] | rw [if_neg (by omega)])) <;> first | rfl | omega)
  by_cases h_4 : c = 38
  · refine jtabIn hF (dflt := 227) (lo' := 37) (hi := 62) (offs := #[163, 213, 227, 227, 227, 137, 119, 227, 128, 227, 146, 227, 227, 227, 227, 227, 227, 227, 227, 227, 227, 227, 227, 191, 180, 202]) (len := 119) 38 213 214 (by decide +kernel) h_4 (by decide) (by decide) (by decide) rfl (by decide) ?_
    refine jblk hF [(.iload_n 1, 1)] (by decide +kernel) (pc' := 215) (lo' := [(0, (0, c)), (1, (0, a)), (2, (0, b))]) (st' := [(0, a)]) rfl ?_
    refine jif_eq hF (off := 11) 226 (by decide +kernel) (by decide) (by omega) (fun h_5 => ?_) (fun h_5 => ?_)
    · refine jblk hF [(.iconst 0, 1)] (by decide +kernel) (pc' := 227) (lo' := [(0, (0, c)), (1, (0, a)), (2, (0, b))]) (st' := [(0, 0)]) rfl ?_
      refine jiret hF hr (by decide +kernel) ?_
      exact lV (by unfold bothV; (repeat (first | rw [if_pos (by omega)] | rw [if_neg (by omega)])) <;> first | rfl | omega)
    · refine jblk hF [(.iload_n 2, 1)] (by decide +kernel) (pc' := 219) (lo' := [(0, (0, c)), (1, (0, a)), (2, (0, b))]) (st' := [(0, b)]) rfl ?_
      refine jif_eq hF (off := 7) 226 (by decide +kernel) (by decide) (by omega) (fun h_6 => ?_) (fun h_6 => ?_)
      · refine jblk hF [(.iconst 0, 1)] (by decide +kernel) (pc' := 227) (lo' := [(0, (0, c)), (1, (0, a)), (2, (0, b))]) (st' := [(0, 0)]) rfl ?_
        refine jiret hF hr (by decide +kernel) ?_
        exact lV (by unfold bothV; (repeat (first | rw [if_pos (by omega)] | rw [if_neg (by omega)])) <;> first | rfl | omega)
      · refine jblk hF [(.iconst 1, 1)] (by decide +kernel) (pc' := 223) (lo' := [(0, (0, c)), (1, (0, a)), (2, (0, b))]) (st' := [(0, 1)]) rfl ?_
        refine jgoto hF (off := 4) 227 (by decide +kernel) (by decide) ?_
        refine jiret hF hr (by decide +kernel) ?_
        exact lV (by unfold bothV; (repeat (first | rw [if_pos (by omega)] | rw [if_neg (by omega)])) <;> first | rfl | omega)
  by_cases h_7 : c = 39
  · refine jtabIn hF (dflt := 227) (lo' := 37) (hi := 62) (offs := #[163, 213, 227, 227, 227, 137, 119, 227, 128, 227, 146, 227, 227, 227, 227, 227, 227, 227, 227, 227, 227, 227, 227, 191, 180, 202]) (len := 119) 39 227 228 (by decide +kernel) h_7 (by decide) (by decide) (by decide) rfl (by decide) ?_
    refine jblk hF [(.iload_n 1, 1)] (by decide +kernel) (pc' := 229) (lo' := [(0, (0, c)), (1, (0, a)), (2, (0, b))]) (st' := [(0, a)]) rfl ?_
    refine jif_ne hF (off := 7) 236 (by decide +kernel) (by decide) (by omega) (fun h_8 => ?_) (fun h_8 => ?_)
    · refine jblk hF [(.iconst 1, 1)] (by decide +kernel) (pc' := 237) (lo' := [(0, (0, c)), (1, (0, a)), (2, (0, b))]) (st' := [(0, 1)]) rfl ?_
      refine jgoto hF (off := 4) 241 (by decide +kernel) (by decide) ?_
      refine jiret hF hr (by decide +kernel) ?_
      exact lV (by unfold bothV; (repeat (first | rw [if_pos (by omega)] | rw [if_neg (by omega)])) <;> first | rfl | omega)
    · refine jblk hF [(.iload_n 2, 1)] (by decide +kernel) (pc' := 233) (lo' := [(0, (0, c)), (1, (0, a)), (2, (0, b))]) (st' := [(0, b)]) rfl ?_
      refine jif_eq hF (off := 7) 240 (by decide +kernel) (by decide) (by omega) (fun h_9 => ?_) (fun h_9 => ?_)
      · refine jblk hF [(.iconst 0, 1)] (by decide +kernel) (pc' := 241) (lo' := [(0, (0, c)), (1, (0, a)), (2, (0, b))]) (st' := [(0, 0)]) rfl ?_
        refine jiret hF hr (by decide +kernel) ?_
        exact lV (by unfold bothV; (repeat (first | rw [if_pos (by omega)] | rw [if_neg (by omega)])) <;> first | rfl | omega)
      · refine jblk hF [(.iconst 1, 1)] (by decide +kernel) (pc' := 237) (lo' := [(0, (0, c)), (1, (0, a)), (2, (0, b))]) (st' := [(0, 1)]) rfl ?_
        refine jgoto hF (off := 4) 241 (by decide +kernel) (by decide) ?_
        refine jiret hF hr (by decide +kernel) ?_
        exact lV (by unfold bothV; (repeat (first | rw [if_pos (by omega)] | rw [if_neg (by omega)])) <;> first | rfl | omega)
  by_cases h_10 : c = 40
  · refine jtabIn hF (dflt := 227) (lo' := 37) (hi := 62) (offs := #[163, 213, 227, 227, 227, 137, 119, 227, 128, 227, 146, 227, 227, 227, 227, 227, 227, 227, 227, 227, 227, 227, 227, 191, 180, 202]) (len := 119) 40 227 228 (by decide +kernel) h_10 (by decide) (by decide) (by decide) rfl (by decide) ?_
    refine jblk hF [(.iload_n 1, 1)] (by decide +kernel) (pc' := 229) (lo' := [(0, (0, c)), (1, (0, a)), (2, (0, b))]) (st' := [(0, a)]) rfl ?_
    refine jif_ne hF (off := 7) 236 (by decide +kernel) (by decide) (by omega) (fun h_11 => ?_) (fun h_11 => ?_)
    · refine jblk hF [(.iconst 1, 1)] (by decide +kernel) (pc' := 237) (lo' := [(0, (0, c)), (1, (0, a)), (2, (0, b))]) (st' := [(0, 1)]) rfl ?_
      refine jgoto hF (off := 4) 241 (by decide +kernel) (by decide) ?_
      refine jiret hF hr (by decide +kernel) ?_
      exact lV (by unfold bothV; (repeat (first | rw [if_pos (by omega)] | rw [if_neg (by omega)])) <;> first | rfl | omega)
    · refine jblk hF [(.iload_n 2, 1)] (by decide +kernel) (pc' := 233) (lo' := [(0, (0, c)), (1, (0, a)), (2, (0, b))]) (st' := [(0, b)]) rfl ?_
      refine jif_eq hF (off := 7) 240 (by decide +kernel) (by decide) (by omega) (fun h_12 => ?_) (fun h_12 => ?_)
      · refine jblk hF [(.iconst 0, 1)] (by decide +kernel) (pc' := 241) (lo' := [(0, (0, c)), (1, (0, a)), (2, (0, b))]) (st' := [(0, 0)]) rfl ?_
        refine jiret hF hr (by decide +kernel) ?_
        exact lV (by unfold bothV; (repeat (first | rw [if_pos (by omega)] | rw [if_neg (by omega)])) <;> first | rfl | omega)
      · refine jblk hF [(.iconst 1, 1)] (by decide +kernel) (pc' := 237) (lo' := [(0, (0, c)), (1, (0, a)), (2, (0, b))]) (st' := [(0, 1)]) rfl ?_
        refine jgoto hF (off := 4) 241 (by decide +kernel) (by decide) ?_
        refine jiret hF hr (by decide +kernel) ?_
        exact lV (by unfold bothV; (repeat (first | rw [if_pos (by omega)] | rw [if_neg (by omega)])) <;> first | rfl | omega)
  by_cases h_13 : c = 41
  · refine jtabIn hF (dflt := 227) (lo' := 37) (hi := 62) (offs := #[163, 213, 227, 227, 227, 137, 119, 227, 128, 227, 146, 227, 227, 227, 227, 227, 227, 227, 227, 227, 227, 227, 227, 191, 180, 202]) (len := 119) 41 227 228 (by decide +kernel) h_13 (by decide) (by decide) (by decide) rfl (by decide) ?_
    refine jblk hF [(.iload_n 1, 1)] (by decide +kernel) (pc' := 229) (lo' := [(0, (0, c)), (1, (0, a)), (2, (0, b))]) (st' := [(0, a)]) rfl ?_
    refine jif_ne hF (off := 7) 236 (by decide +kernel) (by decide) (by omega) (fun h_14 => ?_) (fun h_14 => ?_)
    · refine jblk hF [(.iconst 1, 1)] (by decide +kernel) (pc' := 237) (lo' := [(0, (0, c)), (1, (0, a)), (2, (0, b))]) (st' := [(0, 1)]) rfl ?_
      refine jgoto hF (off := 4) 241 (by decide +kernel) (by decide) ?_
      refine jiret hF hr (by decide +kernel) ?_
      exact lV (by unfold bothV; (repeat (first | rw [if_pos (by omega)] | rw [if_neg (by omega)])) <;> first | rfl | omega)
    · refine jblk hF [(.iload_n 2, 1)] (by decide +kernel) (pc' := 233) (lo' := [(0, (0, c)), (1, (0, a)), (2, (0, b))]) (st' := [(0, b)]) rfl ?_
      refine jif_eq hF (off := 7) 240 (by decide +kernel) (by decide) (by omega) (fun h_15 => ?_) (fun h_15 => ?_)
      · refine jblk hF [(.iconst 0, 1)] (by decide +kernel) (pc' := 241) (lo' := [(0, (0, c)), (1, (0, a)), (2, (0, b))]) (st' := [(0, 0)]) rfl ?_
        refine jiret hF hr (by decide +kernel) ?_
        exact lV (by unfold bothV; (repeat (first | rw [if_pos (by omega)] | rw [if_neg (by omega)])) <;> first | rfl | omega)
      · refine jblk hF [(.iconst 1, 1)] (by decide +kernel) (pc' := 237) (lo' := [(0, (0, c)), (1, (0, a)), (2, (0, b))]) (st' := [(0, 1)]) rfl ?_
        refine jgoto hF (off := 4) 241 (by decide +kernel) (by decide) ?_
        refine jiret hF hr (by decide +kernel) ?_
        exact lV (by unfold bothV; (repeat (first | rw [if_pos (by omega)] | rw [if_neg (by omega)])) <;> first | rfl | omega)
  by_cases h_16 : c = 42
  · refine jtabIn hF (dflt := 227) (lo' := 37) (hi := 62) (offs := #[163, 213, 227, 227, 227, 137, 119, 227, 128, 227, 146, 227, 227, 227, 227, 227, 227, 227, 227, 227, 227, 227, 227, 191, 180, 202]) (len := 119) 42 137 138 (by decide +kernel) h_16 (by decide) (by decide) (by decide) rfl (by decide) ?_
    refine jblk hF [(.iload_n 1, 1)] (by decide +kernel) (pc' := 139) (lo' := [(0, (0, c)), (1, (0, a)), (2, (0, b))]) (st' := [(0, a)]) rfl ?_
    refine ji2l hF (by decide +kernel) (by omega) ?_
    refine jblk hF [(.iload_n 2, 1)] (by decide +kernel) (pc' := 141) (lo' := [(0, (0, c)), (1, (0, a)), (2, (0, b))]) (st' := [(0, b), (1, a)]) rfl ?_
    refine ji2l hF (by decide +kernel) (by omega) ?_
    refine jblk hF [(.lmul, 1)] (by decide +kernel) (pc' := 143) (lo' := [(0, (0, c)), (1, (0, a)), (2, (0, b))]) (st' := [(1, a * b)]) rfl ?_
    refine jcallS hF (c_X12_bounded hG (a * b) (by omega)) MW_X12_bounded wd_1910 wd_1911 (by decide +kernel) [] rfl rfl (by decide) (Nat.le_of_ble_eq_true rfl) (by decide) (kV ?_)
    have hf_17 := cutV_bd (a * b)
    refine jiret hF hr (by decide +kernel) ?_
    exact lV (by unfold bothV; (repeat (first | rw [if_pos (by omega)] | rw [if_neg (by omega)])) <;> first | rfl | omega)
  by_cases h_18 : c = 43
  · refine jtabIn hF (dflt := 227) (lo' := 37) (hi := 62) (offs := #[163, 213, 227, 227, 227, 137, 119, 227, 128, 227, 146, 227, 227, 227, 227, 227, 227, 227, 227, 227, 227, 227, 227, 191, 180, 202]) (len := 119) 43 119 120 (by decide +kernel) h_18 (by decide) (by decide) (by decide) rfl (by decide) ?_
    refine jblk hF [(.iload_n 1, 1)] (by decide +kernel) (pc' := 121) (lo' := [(0, (0, c)), (1, (0, a)), (2, (0, b))]) (st' := [(0, a)]) rfl ?_
    refine ji2l hF (by decide +kernel) (by omega) ?_
    refine jblk hF [(.iload_n 2, 1)] (by decide +kernel) (pc' := 123) (lo' := [(0, (0, c)), (1, (0, a)), (2, (0, b))]) (st' := [(0, b), (1, a)]) rfl ?_
    refine ji2l hF (by decide +kernel) (by omega) ?_
    refine jblk hF [(.ladd, 1)] (by decide +kernel) (pc' := 125) (lo' := [(0, (0, c)), (1, (0, a)), (2, (0, b))]) (st' := [(1, a + b)]) rfl ?_
    refine jcallS hF (c_X12_bounded hG (a + b) (by omega)) MW_X12_bounded wd_1910 wd_1911 (by decide +kernel) [] rfl rfl (by decide) (Nat.le_of_ble_eq_true rfl) (by decide) (kV ?_)
    have hf_19 := cutV_bd (a + b)
    refine jiret hF hr (by decide +kernel) ?_
    exact lV (by unfold bothV; (repeat (first | rw [if_pos (by omega)] | rw [if_neg (by omega)])) <;> first | rfl | omega)
  by_cases h_20 : c = 44
  · refine jtabIn hF (dflt := 227) (lo' := 37) (hi := 62) (offs := #[163, 213, 227, 227, 227, 137, 119, 227, 128, 227, 146, 227, 227, 227, 227, 227, 227, 227, 227, 227, 227, 227, 227, 191, 180, 202]) (len := 119) 44 227 228 (by decide +kernel) h_20 (by decide) (by decide) (by decide) rfl (by decide) ?_
    refine jblk hF [(.iload_n 1, 1)] (by decide +kernel) (pc' := 229) (lo' := [(0, (0, c)), (1, (0, a)), (2, (0, b))]) (st' := [(0, a)]) rfl ?_
    refine jif_ne hF (off := 7) 236 (by decide +kernel) (by decide) (by omega) (fun h_21 => ?_) (fun h_21 => ?_)
    · refine jblk hF [(.iconst 1, 1)] (by decide +kernel) (pc' := 237) (lo' := [(0, (0, c)), (1, (0, a)), (2, (0, b))]) (st' := [(0, 1)]) rfl ?_
      refine jgoto hF (off := 4) 241 (by decide +kernel) (by decide) ?_
      refine jiret hF hr (by decide +kernel) ?_
      exact lV (by unfold bothV; (repeat (first | rw [if_pos (by omega)] | rw [if_neg (by omega)])) <;> first | rfl | omega)
    · refine jblk hF [(.iload_n 2, 1)] (by decide +kernel) (pc' := 233) (lo' := [(0, (0, c)), (1, (0, a)), (2, (0, b))]) (st' := [(0, b)]) rfl ?_
      refine jif_eq hF (off := 7) 240 (by decide +kernel) (by decide) (by omega) (fun h_22 => ?_) (fun h_22 => ?_)
      · refine jblk hF [(.iconst 0, 1)] (by decide +kernel) (pc' := 241) (lo' := [(0, (0, c)), (1, (0, a)), (2, (0, b))]) (st' := [(0, 0)]) rfl ?_
        refine jiret hF hr (by decide +kernel) ?_
        exact lV (by unfold bothV; (repeat (first | rw [if_pos (by omega)] | rw [if_neg (by omega)])) <;> first | rfl | omega)
      · refine jblk hF [(.iconst 1, 1)] (by decide +kernel) (pc' := 237) (lo' := [(0, (0, c)), (1, (0, a)), (2, (0, b))]) (st' := [(0, 1)]) rfl ?_
        refine jgoto hF (off := 4) 241 (by decide +kernel) (by decide) ?_
        refine jiret hF hr (by decide +kernel) ?_
        exact lV (by unfold bothV; (repeat (first | rw [if_pos (by omega)] | rw [if_neg (by omega)])) <;> first | rfl | omega)
  by_cases h_23 : c = 45
  · refine jtabIn hF (dflt := 227) (lo' := 37) (hi := 62) (offs := #[163, 213, 227, 227, 227, 137, 119, 227, 128, 227, 146, 227, 227, 227, 227, 227, 227, 227, 227, 227, 227, 227, 227, 191, 180, 202]) (len := 119) 45 128 129 (by decide +kernel) h_23 (by decide) (by decide) (by decide) rfl (by decide) ?_
    refine jblk hF [(.iload_n 1, 1)] (by decide +kernel) (pc' := 130) (lo' := [(0, (0, c)), (1, (0, a)), (2, (0, b))]) (st' := [(0, a)]) rfl ?_
    refine ji2l hF (by decide +kernel) (by omega) ?_
    refine jblk hF [(.iload_n 2, 1)] (by decide +kernel) (pc' := 132) (lo' := [(0, (0, c)), (1, (0, a)), (2, (0, b))]) (st' := [(0, b), (1, a)]) rfl ?_
    refine ji2l hF (by decide +kernel) (by omega) ?_
    refine jblk hF [(.lsub, 1)] (by decide +kernel) (pc' := 134) (lo' := [(0, (0, c)), (1, (0, a)), (2, (0, b))]) (st' := [(1, a - b)]) rfl ?_
    refine jcallS hF (c_X12_bounded hG (a - b) (by omega)) MW_X12_bounded wd_1910 wd_1911 (by decide +kernel) [] rfl rfl (by decide) (Nat.le_of_ble_eq_true rfl) (by decide) (kV ?_)
    have hf_24 := cutV_bd (a - b)
    refine jiret hF hr (by decide +kernel) ?_
    exact lV (by unfold bothV; (repeat (first | rw [if_pos (by omega)] | rw [if_neg (by omega)])) <;> first | rfl | omega)
  by_cases h_25 : c = 46
  · refine jtabIn hF (dflt := 227) (lo' := 37) (hi := 62) (offs := #[163, 213, 227, 227, 227, 137, 119, 227, 128, 227, 146, 227, 227, 227, 227, 227, 227, 227, 227, 227, 227, 227, 227, 191, 180, 202]) (len := 119) 46 227 228 (by decide +kernel) h_25 (by decide) (by decide) (by decide) rfl (by decide) ?_
    refine jblk hF [(.iload_n 1, 1)] (by decide +kernel) (pc' := 229) (lo' := [(0, (0, c)), (1, (0, a)), (2, (0, b))]) (st' := [(0, a)]) rfl ?_
    refine jif_ne hF (off := 7) 236 (by decide +kernel) (by decide) (by omega) (fun h_26 => ?_) (fun h_26 => ?_)
    · refine jblk hF [(.iconst 1, 1)] (by decide +kernel) (pc' := 237) (lo' := [(0, (0, c)), (1, (0, a)), (2, (0, b))]) (st' := [(0, 1)]) rfl ?_
      refine jgoto hF (off := 4) 241 (by decide +kernel) (by decide) ?_
      refine jiret hF hr (by decide +kernel) ?_
      exact lV (by unfold bothV; (repeat (first | rw [if_pos (by omega)] | rw [if_neg (by omega)])) <;> first | rfl | omega)
    · refine jblk hF [(.iload_n 2, 1)] (by decide +kernel) (pc' := 233) (lo' := [(0, (0, c)), (1, (0, a)), (2, (0, b))]) (st' := [(0, b)]) rfl ?_
      refine jif_eq hF (off := 7) 240 (by decide +kernel) (by decide) (by omega) (fun h_27 => ?_) (fun h_27 => ?_)
      · refine jblk hF [(.iconst 0, 1)] (by decide +kernel) (pc' := 241) (lo' := [(0, (0, c)), (1, (0, a)), (2, (0, b))]) (st' := [(0, 0)]) rfl ?_
        refine jiret hF hr (by decide +kernel) ?_
        exact lV (by unfold bothV; (repeat (first | rw [if_pos (by omega)] | rw [if_neg (by omega)])) <;> first | rfl | omega)
      · refine jblk hF [(.iconst 1, 1)] (by decide +kernel) (pc' := 237) (lo' := [(0, (0, c)), (1, (0, a)), (2, (0, b))]) (st' := [(0, 1)]) rfl ?_
        refine jgoto hF (off := 4) 241 (by decide +kernel) (by decide) ?_
        refine jiret hF hr (by decide +kernel) ?_
        exact lV (by unfold bothV; (repeat (first | rw [if_pos (by omega)] | rw [if_neg (by omega)])) <;> first | rfl | omega)
  by_cases h_28 : c = 47
  · refine jtabIn hF (dflt := 227) (lo' := 37) (hi := 62) (offs := #[163, 213, 227, 227, 227, 137, 119, 227, 128, 227, 146, 227, 227, 227, 227, 227, 227, 227, 227, 227, 227, 227, 227, 191, 180, 202]) (len := 119) 47 146 147 (by decide +kernel) h_28 (by decide) (by decide) (by decide) rfl (by decide) ?_
    refine jblk hF [(.iload_n 2, 1)] (by decide +kernel) (pc' := 148) (lo' := [(0, (0, c)), (1, (0, a)), (2, (0, b))]) (st' := [(0, b)]) rfl ?_
    refine jif_ne hF (off := 7) 155 (by decide +kernel) (by decide) (by omega) (fun h_29 => ?_) (fun h_29 => ?_)
    · refine jblk hF [(.iload_n 1, 1)] (by decide +kernel) (pc' := 156) (lo' := [(0, (0, c)), (1, (0, a)), (2, (0, b))]) (st' := [(0, a)]) rfl ?_
      refine ji2l hF (by decide +kernel) (by omega) ?_
      refine jblk hF [(.iload_n 2, 1)] (by decide +kernel) (pc' := 158) (lo' := [(0, (0, c)), (1, (0, a)), (2, (0, b))]) (st' := [(0, b), (1, a)]) rfl ?_
      refine ji2l hF (by decide +kernel) (by omega) ?_
      refine jldiv hF (by decide +kernel) (by omega) (by omega) (by omega) ?_
      refine jcallS hF (c_X12_bounded hG (Int.tdiv a b) (by omega)) MW_X12_bounded wd_1910 wd_1911 (by decide +kernel) [] rfl rfl (by decide) (Nat.le_of_ble_eq_true rfl) (by decide) (kV ?_)
      have hf_30 := cutV_bd (Int.tdiv a b)
      refine jiret hF hr (by decide +kernel) ?_
      exact lV (by unfold bothV; (repeat (first | rw [if_pos (by omega)] | rw [if_neg (by omega)])) <;> first | rfl | omega)
    · refine jblk hF [(.iconst 0, 1)] (by decide +kernel) (pc' := 152) (lo' := [(0, (0, c)), (1, (0, a)), (2, (0, b))]) (st' := [(0, 0)]) rfl ?_
      refine jgoto hF (off := 11) 163 (by decide +kernel) (by decide) ?_
      refine jiret hF hr (by decide +kernel) ?_
      exact lV (by unfold bothV; (repeat (first | rw [if_pos (by omega)] | rw [if_neg (by omega)])) <;> first | rfl | omega)
  by_cases h_31 : c = 48
  · refine jtabIn hF (dflt := 227) (lo' := 37) (hi := 62) (offs := #[163, 213, 227, 227, 227, 137, 119, 227, 128, 227, 146, 227, 227, 227, 227, 227, 227, 227, 227, 227, 227, 227, 227, 191, 180, 202]) (len := 119) 48 227 228 (by decide +kernel) h_31 (by decide) (by decide) (by decide) rfl (by decide) ?_
    refine jblk hF [(.iload_n 1, 1)] (by decide +kernel) (pc' := 229) (lo' := [(0, (0, c)), (1, (0, a)), (2, (0, b))]) (st' := [(0, a)]) rfl ?_
    refine jif_ne hF (off := 7) 236 (by decide +kernel) (by decide) (by omega) (fun h_32 => ?_) (fun h_32 => ?_)
    · refine jblk hF [(.iconst 1, 1)] (by decide +kernel) (pc' := 237) (lo' := [(0, (0, c)), (1, (0, a)), (2, (0, b))]) (st' := [(0, 1)]) rfl ?_
      refine jgoto hF (off := 4) 241 (by decide +kernel) (by decide) ?_
      refine jiret hF hr (by decide +kernel) ?_
      exact lV (by unfold bothV; (repeat (first | rw [if_pos (by omega)] | rw [if_neg (by omega)])) <;> first | rfl | omega)
    · refine jblk hF [(.iload_n 2, 1)] (by decide +kernel) (pc' := 233) (lo' := [(0, (0, c)), (1, (0, a)), (2, (0, b))]) (st' := [(0, b)]) rfl ?_
      refine jif_eq hF (off := 7) 240 (by decide +kernel) (by decide) (by omega) (fun h_33 => ?_) (fun h_33 => ?_)
      · refine jblk hF [(.iconst 0, 1)] (by decide +kernel) (pc' := 241) (lo' := [(0, (0, c)), (1, (0, a)), (2, (0, b))]) (st' := [(0, 0)]) rfl ?_
        refine jiret hF hr (by decide +kernel) ?_
        exact lV (by unfold bothV; (repeat (first | rw [if_pos (by omega)] | rw [if_neg (by omega)])) <;> first | rfl | omega)
      · refine jblk hF [(.iconst 1, 1)] (by decide +kernel) (pc' := 237) (lo' := [(0, (0, c)), (1, (0, a)), (2, (0, b))]) (st' := [(0, 1)]) rfl ?_
        refine jgoto hF (off := 4) 241 (by decide +kernel) (by decide) ?_
        refine jiret hF hr (by decide +kernel) ?_
        exact lV (by unfold bothV; (repeat (first | rw [if_pos (by omega)] | rw [if_neg (by omega)])) <;> first | rfl | omega)
  by_cases h_34 : c = 49
  · refine jtabIn hF (dflt := 227) (lo' := 37) (hi := 62) (offs := #[163, 213, 227, 227, 227, 137, 119, 227, 128, 227, 146, 227, 227, 227, 227, 227, 227, 227, 227, 227, 227, 227, 227, 191, 180, 202]) (len := 119) 49 227 228 (by decide +kernel) h_34 (by decide) (by decide) (by decide) rfl (by decide) ?_
    refine jblk hF [(.iload_n 1, 1)] (by decide +kernel) (pc' := 229) (lo' := [(0, (0, c)), (1, (0, a)), (2, (0, b))]) (st' := [(0, a)]) rfl ?_
    refine jif_ne hF (off := 7) 236 (by decide +kernel) (by decide) (by omega) (fun h_35 => ?_) (fun h_35 => ?_)
    · refine jblk hF [(.iconst 1, 1)] (by decide +kernel) (pc' := 237) (lo' := [(0, (0, c)), (1, (0, a)), (2, (0, b))]) (st' := [(0, 1)]) rfl ?_
      refine jgoto hF (off := 4) 241 (by decide +kernel) (by decide) ?_
      refine jiret hF hr (by decide +kernel) ?_
      exact lV (by unfold bothV; (repeat (first | rw [if_pos (by omega)] | rw [if_neg (by omega)])) <;> first | rfl | omega)
    · refine jblk hF [(.iload_n 2, 1)] (by decide +kernel) (pc' := 233) (lo' := [(0, (0, c)), (1, (0, a)), (2, (0, b))]) (st' := [(0, b)]) rfl ?_
      refine jif_eq hF (off := 7) 240 (by decide +kernel) (by decide) (by omega) (fun h_36 => ?_) (fun h_36 => ?_)
      · refine jblk hF [(.iconst 0, 1)] (by decide +kernel) (pc' := 241) (lo' := [(0, (0, c)), (1, (0, a)), (2, (0, b))]) (st' := [(0, 0)]) rfl ?_
        refine jiret hF hr (by decide +kernel) ?_
        exact lV (by unfold bothV; (repeat (first | rw [if_pos (by omega)] | rw [if_neg (by omega)])) <;> first | rfl | omega)
      · refine jblk hF [(.iconst 1, 1)] (by decide +kernel) (pc' := 237) (lo' := [(0, (0, c)), (1, (0, a)), (2, (0, b))]) (st' := [(0, 1)]) rfl ?_
        refine jgoto hF (off := 4) 241 (by decide +kernel) (by decide) ?_
        refine jiret hF hr (by decide +kernel) ?_
        exact lV (by unfold bothV; (repeat (first | rw [if_pos (by omega)] | rw [if_neg (by omega)])) <;> first | rfl | omega)
  by_cases h_37 : c = 50
  · refine jtabIn hF (dflt := 227) (lo' := 37) (hi := 62) (offs := #[163, 213, 227, 227, 227, 137, 119, 227, 128, 227, 146, 227, 227, 227, 227, 227, 227, 227, 227, 227, 227, 227, 227, 191, 180, 202]) (len := 119) 50 227 228 (by decide +kernel) h_37 (by decide) (by decide) (by decide) rfl (by decide) ?_
    refine jblk hF [(.iload_n 1, 1)] (by decide +kernel) (pc' := 229) (lo' := [(0, (0, c)), (1, (0, a)), (2, (0, b))]) (st' := [(0, a)]) rfl ?_
    refine jif_ne hF (off := 7) 236 (by decide +kernel) (by decide) (by omega) (fun h_38 => ?_) (fun h_38 => ?_)
    · refine jblk hF [(.iconst 1, 1)] (by decide +kernel) (pc' := 237) (lo' := [(0, (0, c)), (1, (0, a)), (2, (0, b))]) (st' := [(0, 1)]) rfl ?_
      refine jgoto hF (off := 4) 241 (by decide +kernel) (by decide) ?_
      refine jiret hF hr (by decide +kernel) ?_
      exact lV (by unfold bothV; (repeat (first | rw [if_pos (by omega)] | rw [if_neg (by omega)])) <;> first | rfl | omega)
    · refine jblk hF [(.iload_n 2, 1)] (by decide +kernel) (pc' := 233) (lo' := [(0, (0, c)), (1, (0, a)), (2, (0, b))]) (st' := [(0, b)]) rfl ?_
      refine jif_eq hF (off := 7) 240 (by decide +kernel) (by decide) (by omega) (fun h_39 => ?_) (fun h_39 => ?_)
      · refine jblk hF [(.iconst 0, 1)] (by decide +kernel) (pc' := 241) (lo' := [(0, (0, c)), (1, (0, a)), (2, (0, b))]) (st' := [(0, 0)]) rfl ?_
        refine jiret hF hr (by decide +kernel) ?_
        exact lV (by unfold bothV; (repeat (first | rw [if_pos (by omega)] | rw [if_neg (by omega)])) <;> first | rfl | omega)
      · refine jblk hF [(.iconst 1, 1)] (by decide +kernel) (pc' := 237) (lo' := [(0, (0, c)), (1, (0, a)), (2, (0, b))]) (st' := [(0, 1)]) rfl ?_
        refine jgoto hF (off := 4) 241 (by decide +kernel) (by decide) ?_
        refine jiret hF hr (by decide +kernel) ?_
        exact lV (by unfold bothV; (repeat (first | rw [if_pos (by omega)] | rw [if_neg (by omega)])) <;> first | rfl | omega)
  by_cases h_40 : c = 51
  · refine jtabIn hF (dflt := 227) (lo' := 37) (hi := 62) (offs := #[163, 213, 227, 227, 227, 137, 119, 227, 128, 227, 146, 227, 227, 227, 227, 227, 227, 227, 227, 227, 227, 227, 227, 191, 180, 202]) (len := 119) 51 227 228 (by decide +kernel) h_40 (by decide) (by decide) (by decide) rfl (by decide) ?_
    refine jblk hF [(.iload_n 1, 1)] (by decide +kernel) (pc' := 229) (lo' := [(0, (0, c)), (1, (0, a)), (2, (0, b))]) (st' := [(0, a)]) rfl ?_
    refine jif_ne hF (off := 7) 236 (by decide +kernel) (by decide) (by omega) (fun h_41 => ?_) (fun h_41 => ?_)
    · refine jblk hF [(.iconst 1, 1)] (by decide +kernel) (pc' := 237) (lo' := [(0, (0, c)), (1, (0, a)), (2, (0, b))]) (st' := [(0, 1)]) rfl ?_
      refine jgoto hF (off := 4) 241 (by decide +kernel) (by decide) ?_
      refine jiret hF hr (by decide +kernel) ?_
      exact lV (by unfold bothV; (repeat (first | rw [if_pos (by omega)] | rw [if_neg (by omega)])) <;> first | rfl | omega)
    · refine jblk hF [(.iload_n 2, 1)] (by decide +kernel) (pc' := 233) (lo' := [(0, (0, c)), (1, (0, a)), (2, (0, b))]) (st' := [(0, b)]) rfl ?_
      refine jif_eq hF (off := 7) 240 (by decide +kernel) (by decide) (by omega) (fun h_42 => ?_) (fun h_42 => ?_)
      · refine jblk hF [(.iconst 0, 1)] (by decide +kernel) (pc' := 241) (lo' := [(0, (0, c)), (1, (0, a)), (2, (0, b))]) (st' := [(0, 0)]) rfl ?_
        refine jiret hF hr (by decide +kernel) ?_
        exact lV (by unfold bothV; (repeat (first | rw [if_pos (by omega)] | rw [if_neg (by omega)])) <;> first | rfl | omega)
      · refine jblk hF [(.iconst 1, 1)] (by decide +kernel) (pc' := 237) (lo' := [(0, (0, c)), (1, (0, a)), (2, (0, b))]) (st' := [(0, 1)]) rfl ?_
        refine jgoto hF (off := 4) 241 (by decide +kernel) (by decide) ?_
        refine jiret hF hr (by decide +kernel) ?_
        exact lV (by unfold bothV; (repeat (first | rw [if_pos (by omega)] | rw [if_neg (by omega)])) <;> first | rfl | omega)
  by_cases h_43 : c = 52
  · refine jtabIn hF (dflt := 227) (lo' := 37) (hi := 62) (offs := #[163, 213, 227, 227, 227, 137, 119, 227, 128, 227, 146, 227, 227, 227, 227, 227, 227, 227, 227, 227, 227, 227, 227, 191, 180, 202]) (len := 119) 52 227 228 (by decide +kernel) h_43 (by decide) (by decide) (by decide) rfl (by decide) ?_
    refine jblk hF [(.iload_n 1, 1)] (by decide +kernel) (pc' := 229) (lo' := [(0, (0, c)), (1, (0, a)), (2, (0, b))]) (st' := [(0, a)]) rfl ?_
    refine jif_ne hF (off := 7) 236 (by decide +kernel) (by decide) (by omega) (fun h_44 => ?_) (fun h_44 => ?_)
    · refine jblk hF [(.iconst 1, 1)] (by decide +kernel) (pc' := 237) (lo' := [(0, (0, c)), (1, (0, a)), (2, (0, b))]) (st' := [(0, 1)]) rfl ?_
      refine jgoto hF (off := 4) 241 (by decide +kernel) (by decide) ?_
      refine jiret hF hr (by decide +kernel) ?_
      exact lV (by unfold bothV; (repeat (first | rw [if_pos (by omega)] | rw [if_neg (by omega)])) <;> first | rfl | omega)
    · refine jblk hF [(.iload_n 2, 1)] (by decide +kernel) (pc' := 233) (lo' := [(0, (0, c)), (1, (0, a)), (2, (0, b))]) (st' := [(0, b)]) rfl ?_
      refine jif_eq hF (off := 7) 240 (by decide +kernel) (by decide) (by omega) (fun h_45 => ?_) (fun h_45 => ?_)
      · refine jblk hF [(.iconst 0, 1)] (by decide +kernel) (pc' := 241) (lo' := [(0, (0, c)), (1, (0, a)), (2, (0, b))]) (st' := [(0, 0)]) rfl ?_
        refine jiret hF hr (by decide +kernel) ?_
        exact lV (by unfold bothV; (repeat (first | rw [if_pos (by omega)] | rw [if_neg (by omega)])) <;> first | rfl | omega)
      · refine jblk hF [(.iconst 1, 1)] (by decide +kernel) (pc' := 237) (lo' := [(0, (0, c)), (1, (0, a)), (2, (0, b))]) (st' := [(0, 1)]) rfl ?_
        refine jgoto hF (off := 4) 241 (by decide +kernel) (by decide) ?_
        refine jiret hF hr (by decide +kernel) ?_
        exact lV (by unfold bothV; (repeat (first | rw [if_pos (by omega)] | rw [if_neg (by omega)])) <;> first | rfl | omega)
  by_cases h_46 : c = 53
  · refine jtabIn hF (dflt := 227) (lo' := 37) (hi := 62) (offs := #[163, 213, 227, 227, 227, 137, 119, 227, 128, 227, 146, 227, 227, 227, 227, 227, 227, 227, 227, 227, 227, 227, 227, 191, 180, 202]) (len := 119) 53 227 228 (by decide +kernel) h_46 (by decide) (by decide) (by decide) rfl (by decide) ?_
    refine jblk hF [(.iload_n 1, 1)] (by decide +kernel) (pc' := 229) (lo' := [(0, (0, c)), (1, (0, a)), (2, (0, b))]) (st' := [(0, a)]) rfl ?_
    refine jif_ne hF (off := 7) 236 (by decide +kernel) (by decide) (by omega) (fun h_47 => ?_) (fun h_47 => ?_)
    · refine jblk hF [(.iconst 1, 1)] (by decide +kernel) (pc' := 237) (lo' := [(0, (0, c)), (1, (0, a)), (2, (0, b))]) (st' := [(0, 1)]) rfl ?_
      refine jgoto hF (off := 4) 241 (by decide +kernel) (by decide) ?_
      refine jiret hF hr (by decide +kernel) ?_
      exact lV (by unfold bothV; (repeat (first | rw [if_pos (by omega)] | rw [if_neg (by omega)])) <;> first | rfl | omega)
    · refine jblk hF [(.iload_n 2, 1)] (by decide +kernel) (pc' := 233) (lo' := [(0, (0, c)), (1, (0, a)), (2, (0, b))]) (st' := [(0, b)]) rfl ?_
      refine jif_eq hF (off := 7) 240 (by decide +kernel) (by decide) (by omega) (fun h_48 => ?_) (fun h_48 => ?_)
      · refine jblk hF [(.iconst 0, 1)] (by decide +kernel) (pc' := 241) (lo' := [(0, (0, c)), (1, (0, a)), (2, (0, b))]) (st' := [(0, 0)]) rfl ?_
        refine jiret hF hr (by decide +kernel) ?_
        exact lV (by unfold bothV; (repeat (first | rw [if_pos (by omega)] | rw [if_neg (by omega)])) <;> first | rfl | omega)
      · refine jblk hF [(.iconst 1, 1)] (by decide +kernel) (pc' := 237) (lo' := [(0, (0, c)), (1, (0, a)), (2, (0, b))]) (st' := [(0, 1)]) rfl ?_
        refine jgoto hF (off := 4) 241 (by decide +kernel) (by decide) ?_
        refine jiret hF hr (by decide +kernel) ?_
        exact lV (by unfold bothV; (repeat (first | rw [if_pos (by omega)] | rw [if_neg (by omega)])) <;> first | rfl | omega)
  by_cases h_49 : c = 54
  · refine jtabIn hF (dflt := 227) (lo' := 37) (hi := 62) (offs := #[163, 213, 227, 227, 227, 137, 119, 227, 128, 227, 146, 227, 227, 227, 227, 227, 227, 227, 227, 227, 227, 227, 227, 191, 180, 202]) (len := 119) 54 227 228 (by decide +kernel) h_49 (by decide) (by decide) (by decide) rfl (by decide) ?_
    refine jblk hF [(.iload_n 1, 1)] (by decide +kernel) (pc' := 229) (lo' := [(0, (0, c)), (1, (0, a)), (2, (0, b))]) (st' := [(0, a)]) rfl ?_
    refine jif_ne hF (off := 7) 236 (by decide +kernel) (by decide) (by omega) (fun h_50 => ?_) (fun h_50 => ?_)
    · refine jblk hF [(.iconst 1, 1)] (by decide +kernel) (pc' := 237) (lo' := [(0, (0, c)), (1, (0, a)), (2, (0, b))]) (st' := [(0, 1)]) rfl ?_
      refine jgoto hF (off := 4) 241 (by decide +kernel) (by decide) ?_
      refine jiret hF hr (by decide +kernel) ?_
      exact lV (by unfold bothV; (repeat (first | rw [if_pos (by omega)] | rw [if_neg (by omega)])) <;> first | rfl | omega)
    · refine jblk hF [(.iload_n 2, 1)] (by decide +kernel) (pc' := 233) (lo' := [(0, (0, c)), (1, (0, a)), (2, (0, b))]) (st' := [(0, b)]) rfl ?_
      refine jif_eq hF (off := 7) 240 (by decide +kernel) (by decide) (by omega) (fun h_51 => ?_) (fun h_51 => ?_)
      · refine jblk hF [(.iconst 0, 1)] (by decide +kernel) (pc' := 241) (lo' := [(0, (0, c)), (1, (0, a)), (2, (0, b))]) (st' := [(0, 0)]) rfl ?_
        refine jiret hF hr (by decide +kernel) ?_
        exact lV (by unfold bothV; (repeat (first | rw [if_pos (by omega)] | rw [if_neg (by omega)])) <;> first | rfl | omega)
      · refine jblk hF [(.iconst 1, 1)] (by decide +kernel) (pc' := 237) (lo' := [(0, (0, c)), (1, (0, a)), (2, (0, b))]) (st' := [(0, 1)]) rfl ?_
        refine jgoto hF (off := 4) 241 (by decide +kernel) (by decide) ?_
        refine jiret hF hr (by decide +kernel) ?_
        exact lV (by unfold bothV; (repeat (first | rw [if_pos (by omega)] | rw [if_neg (by omega)])) <;> first | rfl | omega)
  by_cases h_52 : c = 55
  · refine jtabIn hF (dflt := 227) (lo' := 37) (hi := 62) (offs := #[163, 213, 227, 227, 227, 137, 119, 227, 128, 227, 146, 227, 227, 227, 227, 227, 227, 227, 227, 227, 227, 227, 227, 191, 180, 202]) (len := 119) 55 227 228 (by decide +kernel) h_52 (by decide) (by decide) (by decide) rfl (by decide) ?_
    refine jblk hF [(.iload_n 1, 1)] (by decide +kernel) (pc' := 229) (lo' := [(0, (0, c)), (1, (0, a)), (2, (0, b))]) (st' := [(0, a)]) rfl ?_
    refine jif_ne hF (off := 7) 236 (by decide +kernel) (by decide) (by omega) (fun h_53 => ?_) (fun h_53 => ?_)
    · refine jblk hF [(.iconst 1, 1)] (by decide +kernel) (pc' := 237) (lo' := [(0, (0, c)), (1, (0, a)), (2, (0, b))]) (st' := [(0, 1)]) rfl ?_
      refine jgoto hF (off := 4) 241 (by decide +kernel) (by decide) ?_
      refine jiret hF hr (by decide +kernel) ?_
      exact lV (by unfold bothV; (repeat (first | rw [if_pos (by omega)] | rw [if_neg (by omega)])) <;> first | rfl | omega)
    · refine jblk hF [(.iload_n 2, 1)] (by decide +kernel) (pc' := 233) (lo' := [(0, (0, c)), (1, (0, a)), (2, (0, b))]) (st' := [(0, b)]) rfl ?_
      refine jif_eq hF (off := 7) 240 (by decide +kernel) (by decide) (by omega) (fun h_54 => ?_) (fun h_54 => ?_)
      · refine jblk hF [(.iconst 0, 1)] (by decide +kernel) (pc' := 241) (lo' := [(0, (0, c)), (1, (0, a)), (2, (0, b))]) (st' := [(0, 0)]) rfl ?_
        refine jiret hF hr (by decide +kernel) ?_
        exact lV (by unfold bothV; (repeat (first | rw [if_pos (by omega)] | rw [if_neg (by omega)])) <;> first | rfl | omega)
      · refine jblk hF [(.iconst 1, 1)] (by decide +kernel) (pc' := 237) (lo' := [(0, (0, c)), (1, (0, a)), (2, (0, b))]) (st' := [(0, 1)]) rfl ?_
        refine jgoto hF (off := 4) 241 (by decide +kernel) (by decide) ?_
        refine jiret hF hr (by decide +kernel) ?_
        exact lV (by unfold bothV; (repeat (first | rw [if_pos (by omega)] | rw [if_neg (by omega)])) <;> first | rfl | omega)
  by_cases h_55 : c = 56
  · refine jtabIn hF (dflt := 227) (lo' := 37) (hi := 62) (offs := #[163, 213, 227, 227, 227, 137, 119, 227, 128, 227, 146, 227, 227, 227, 227, 227, 227, 227, 227, 227, 227, 227, 227, 191, 180, 202]) (len := 119) 56 227 228 (by decide +kernel) h_55 (by decide) (by decide) (by decide) rfl (by decide) ?_
    refine jblk hF [(.iload_n 1, 1)] (by decide +kernel) (pc' := 229) (lo' := [(0, (0, c)), (1, (0, a)), (2, (0, b))]) (st' := [(0, a)]) rfl ?_
    refine jif_ne hF (off := 7) 236 (by decide +kernel) (by decide) (by omega) (fun h_56 => ?_) (fun h_56 => ?_)
    · refine jblk hF [(.iconst 1, 1)] (by decide +kernel) (pc' := 237) (lo' := [(0, (0, c)), (1, (0, a)), (2, (0, b))]) (st' := [(0, 1)]) rfl ?_
      refine jgoto hF (off := 4) 241 (by decide +kernel) (by decide) ?_
      refine jiret hF hr (by decide +kernel) ?_
      exact lV (by unfold bothV; (repeat (first | rw [if_pos (by omega)] | rw [if_neg (by omega)])) <;> first | rfl | omega)
    · refine jblk hF [(.iload_n 2, 1)] (by decide +kernel) (pc' := 233) (lo' := [(0, (0, c)), (1, (0, a)), (2, (0, b))]) (st' := [(0, b)]) rfl ?_
      refine jif_eq hF (off := 7) 240 (by decide +kernel) (by decide) (by omega) (fun h_57 => ?_) (fun h_57 => ?_)
      · refine jblk hF [(.iconst 0, 1)] (by decide +kernel) (pc' := 241) (lo' := [(0, (0, c)), (1, (0, a)), (2, (0, b))]) (st' := [(0, 0)]) rfl ?_
        refine jiret hF hr (by decide +kernel) ?_
        exact lV (by unfold bothV; (repeat (first | rw [if_pos (by omega)] | rw [if_neg (by omega)])) <;> first | rfl | omega)
      · refine jblk hF [(.iconst 1, 1)] (by decide +kernel) (pc' := 237) (lo' := [(0, (0, c)), (1, (0, a)), (2, (0, b))]) (st' := [(0, 1)]) rfl ?_
        refine jgoto hF (off := 4) 241 (by decide +kernel) (by decide) ?_
        refine jiret hF hr (by decide +kernel) ?_
        exact lV (by unfold bothV; (repeat (first | rw [if_pos (by omega)] | rw [if_neg (by omega)])) <;> first | rfl | omega)
  by_cases h_58 : c = 57
  · refine jtabIn hF (dflt := 227) (lo' := 37) (hi := 62) (offs := #[163, 213, 227, 227, 227, 137, 119, 227, 128, 227, 146, 227, 227, 227, 227, 227, 227, 227, 227, 227, 227, 227, 227, 191, 180, 202]) (len := 119) 57 227 228 (by decide +kernel) h_58 (by decide) (by decide) (by decide) rfl (by decide) ?_
    refine jblk hF [(.iload_n 1, 1)] (by decide +kernel) (pc' := 229) (lo' := [(0, (0, c)), (1, (0, a)), (2, (0, b))]) (st' := [(0, a)]) rfl ?_
    refine jif_ne hF (off := 7) 236 (by decide +kernel) (by decide) (by omega) (fun h_59 => ?_) (fun h_59 => ?_)
    · refine jblk hF [(.iconst 1, 1)] (by decide +kernel) (pc' := 237) (lo' := [(0, (0, c)), (1, (0, a)), (2, (0, b))]) (st' := [(0, 1)]) rfl ?_
      refine jgoto hF (off := 4) 241 (by decide +kernel) (by decide) ?_
      refine jiret hF hr (by decide +kernel) ?_
      exact lV (by unfold bothV; (repeat (first | rw [if_pos (by omega)] | rw [if_neg (by omega)])) <;> first | rfl | omega)
    · refine jblk hF [(.iload_n 2, 1)] (by decide +kernel) (pc' := 233) (lo' := [(0, (0, c)), (1, (0, a)), (2, (0, b))]) (st' := [(0, b)]) rfl ?_
      refine jif_eq hF (off := 7) 240 (by decide +kernel) (by decide) (by omega) (fun h_60 => ?_) (fun h_60 => ?_)
      · refine jblk hF [(.iconst 0, 1)] (by decide +kernel) (pc' := 241) (lo' := [(0, (0, c)), (1, (0, a)), (2, (0, b))]) (st' := [(0, 0)]) rfl ?_
        refine jiret hF hr (by decide +kernel) ?_
        exact lV (by unfold bothV; (repeat (first | rw [if_pos (by omega)] | rw [if_neg (by omega)])) <;> first | rfl | omega)
      · refine jblk hF [(.iconst 1, 1)] (by decide +kernel) (pc' := 237) (lo' := [(0, (0, c)), (1, (0, a)), (2, (0, b))]) (st' := [(0, 1)]) rfl ?_
        refine jgoto hF (off := 4) 241 (by decide +kernel) (by decide) ?_
        refine jiret hF hr (by decide +kernel) ?_
        exact lV (by unfold bothV; (repeat (first | rw [if_pos (by omega)] | rw [if_neg (by omega)])) <;> first | rfl | omega)
  by_cases h_61 : c = 58
  · refine jtabIn hF (dflt := 227) (lo' := 37) (hi := 62) (offs := #[163, 213, 227, 227, 227, 137, 119, 227, 128, 227, 146, 227, 227, 227, 227, 227, 227, 227, 227, 227, 227, 227, 227, 191, 180, 202]) (len := 119) 58 227 228 (by decide +kernel) h_61 (by decide) (by decide) (by decide) rfl (by decide) ?_
    refine jblk hF [(.iload_n 1, 1)] (by decide +kernel) (pc' := 229) (lo' := [(0, (0, c)), (1, (0, a)), (2, (0, b))]) (st' := [(0, a)]) rfl ?_
    refine jif_ne hF (off := 7) 236 (by decide +kernel) (by decide) (by omega) (fun h_62 => ?_) (fun h_62 => ?_)
    · refine jblk hF [(.iconst 1, 1)] (by decide +kernel) (pc' := 237) (lo' := [(0, (0, c)), (1, (0, a)), (2, (0, b))]) (st' := [(0, 1)]) rfl ?_
      refine jgoto hF (off := 4) 241 (by decide +kernel) (by decide) ?_
      refine jiret hF hr (by decide +kernel) ?_
      exact lV (by unfold bothV; (repeat (first | rw [if_pos (by omega)] | rw [if_neg (by omega)])) <;> first | rfl | omega)
    · refine jblk hF [(.iload_n 2, 1)] (by decide +kernel) (pc' := 233) (lo' := [(0, (0, c)), (1, (0, a)), (2, (0, b))]) (st' := [(0, b)]) rfl ?_
      refine jif_eq hF (off := 7) 240 (by decide +kernel) (by decide) (by omega) (fun h_63 => ?_) (fun h_63 => ?_)
      · refine jblk hF [(.iconst 0, 1)] (by decide +kernel) (pc' := 241) (lo' := [(0, (0, c)), (1, (0, a)), (2, (0, b))]) (st' := [(0, 0)]) rfl ?_
        refine jiret hF hr (by decide +kernel) ?_
        exact lV (by unfold bothV; (repeat (first | rw [if_pos (by omega)] | rw [if_neg (by omega)])) <;> first | rfl | omega)
      · refine jblk hF [(.iconst 1, 1)] (by decide +kernel) (pc' := 237) (lo' := [(0, (0, c)), (1, (0, a)), (2, (0, b))]) (st' := [(0, 1)]) rfl ?_
        refine jgoto hF (off := 4) 241 (by decide +kernel) (by decide) ?_
        refine jiret hF hr (by decide +kernel) ?_
        exact lV (by unfold bothV; (repeat (first | rw [if_pos (by omega)] | rw [if_neg (by omega)])) <;> first | rfl | omega)
  by_cases h_64 : c = 59
  · refine jtabIn hF (dflt := 227) (lo' := 37) (hi := 62) (offs := #[163, 213, 227, 227, 227, 137, 119, 227, 128, 227, 146, 227, 227, 227, 227, 227, 227, 227, 227, 227, 227, 227, 227, 191, 180, 202]) (len := 119) 59 227 228 (by decide +kernel) h_64 (by decide) (by decide) (by decide) rfl (by decide) ?_
    refine jblk hF [(.iload_n 1, 1)] (by decide +kernel) (pc' := 229) (lo' := [(0, (0, c)), (1, (0, a)), (2, (0, b))]) (st' := [(0, a)]) rfl ?_
    refine jif_ne hF (off := 7) 236 (by decide +kernel) (by decide) (by omega) (fun h_65 => ?_) (fun h_65 => ?_)
    · refine jblk hF [(.iconst 1, 1)] (by decide +kernel) (pc' := 237) (lo' := [(0, (0, c)), (1, (0, a)), (2, (0, b))]) (st' := [(0, 1)]) rfl ?_
      refine jgoto hF (off := 4) 241 (by decide +kernel) (by decide) ?_
      refine jiret hF hr (by decide +kernel) ?_
      exact lV (by unfold bothV; (repeat (first | rw [if_pos (by omega)] | rw [if_neg (by omega)])) <;> first | rfl | omega)
    · refine jblk hF [(.iload_n 2, 1)] (by decide +kernel) (pc' := 233) (lo' := [(0, (0, c)), (1, (0, a)), (2, (0, b))]) (st' := [(0, b)]) rfl ?_
      refine jif_eq hF (off := 7) 240 (by decide +kernel) (by decide) (by omega) (fun h_66 => ?_) (fun h_66 => ?_)
      · refine jblk hF [(.iconst 0, 1)] (by decide +kernel) (pc' := 241) (lo' := [(0, (0, c)), (1, (0, a)), (2, (0, b))]) (st' := [(0, 0)]) rfl ?_
        refine jiret hF hr (by decide +kernel) ?_
        exact lV (by unfold bothV; (repeat (first | rw [if_pos (by omega)] | rw [if_neg (by omega)])) <;> first | rfl | omega)
      · refine jblk hF [(.iconst 1, 1)] (by decide +kernel) (pc' := 237) (lo' := [(0, (0, c)), (1, (0, a)), (2, (0, b))]) (st' := [(0, 1)]) rfl ?_
        refine jgoto hF (off := 4) 241 (by decide +kernel) (by decide) ?_
        refine jiret hF hr (by decide +kernel) ?_
        exact lV (by unfold bothV; (repeat (first | rw [if_pos (by omega)] | rw [if_neg (by omega)])) <;> first | rfl | omega)
  by_cases h_67 : c = 60
  · refine jtabIn hF (dflt := 227) (lo' := 37) (hi := 62) (offs := #[163, 213, 227, 227, 227, 137, 119, 227, 128, 227, 146, 227, 227, 227, 227, 227, 227, 227, 227, 227, 227, 227, 227, 191, 180, 202]) (len := 119) 60 191 192 (by decide +kernel) h_67 (by decide) (by decide) (by decide) rfl (by decide) ?_
    refine jblk hF [(.iload_n 1, 1), (.iload_n 2, 1)] (by decide +kernel) (pc' := 194) (lo' := [(0, (0, c)), (1, (0, a)), (2, (0, b))]) (st' := [(0, b), (0, a)]) rfl ?_
    refine jicmp_ge hF (off := 7) 201 (by decide +kernel) (by decide) (by omega) (by omega) (fun h_68 => ?_) (fun h_68 => ?_)
    · refine jblk hF [(.iconst 0, 1)] (by decide +kernel) (pc' := 202) (lo' := [(0, (0, c)), (1, (0, a)), (2, (0, b))]) (st' := [(0, 0)]) rfl ?_
      refine jiret hF hr (by decide +kernel) ?_
      exact lV (by unfold bothV; (repeat (first | rw [if_pos (by omega)] | rw [if_neg (by omega)])) <;> first | rfl | omega)
    · refine jblk hF [(.iconst 1, 1)] (by decide +kernel) (pc' := 198) (lo' := [(0, (0, c)), (1, (0, a)), (2, (0, b))]) (st' := [(0, 1)]) rfl ?_
      refine jgoto hF (off := 4) 202 (by decide +kernel) (by decide) ?_
      refine jiret hF hr (by decide +kernel) ?_
      exact lV (by unfold bothV; (repeat (first | rw [if_pos (by omega)] | rw [if_neg (by omega)])) <;> first | rfl | omega)
  by_cases h_69 : c = 61
  · refine jtabIn hF (dflt := 227) (lo' := 37) (hi := 62) (offs := #[163, 213, 227, 227, 227, 137, 119, 227, 128, 227, 146, 227, 227, 227, 227, 227, 227, 227, 227, 227, 227, 227, 227, 191, 180, 202]) (len := 119) 61 180 181 (by decide +kernel) h_69 (by decide) (by decide) (by decide) rfl (by decide) ?_
    refine jblk hF [(.iload_n 1, 1), (.iload_n 2, 1)] (by decide +kernel) (pc' := 183) (lo' := [(0, (0, c)), (1, (0, a)), (2, (0, b))]) (st' := [(0, b), (0, a)]) rfl ?_
    refine jicmp_ne hF (off := 7) 190 (by decide +kernel) (by decide) (by omega) (by omega) (fun h_70 => ?_) (fun h_70 => ?_)
    · refine jblk hF [(.iconst 0, 1)] (by decide +kernel) (pc' := 191) (lo' := [(0, (0, c)), (1, (0, a)), (2, (0, b))]) (st' := [(0, 0)]) rfl ?_
      refine jiret hF hr (by decide +kernel) ?_
      exact lV (by unfold bothV; (repeat (first | rw [if_pos (by omega)] | rw [if_neg (by omega)])) <;> first | rfl | omega)
    · refine jblk hF [(.iconst 1, 1)] (by decide +kernel) (pc' := 187) (lo' := [(0, (0, c)), (1, (0, a)), (2, (0, b))]) (st' := [(0, 1)]) rfl ?_
      refine jgoto hF (off := 4) 191 (by decide +kernel) (by decide) ?_
      refine jiret hF hr (by decide +kernel) ?_
      exact lV (by unfold bothV; (repeat (first | rw [if_pos (by omega)] | rw [if_neg (by omega)])) <;> first | rfl | omega)
  by_cases h_71 : c = 62
  · refine jtabIn hF (dflt := 227) (lo' := 37) (hi := 62) (offs := #[163, 213, 227, 227, 227, 137, 119, 227, 128, 227, 146, 227, 227, 227, 227, 227, 227, 227, 227, 227, 227, 227, 227, 191, 180, 202]) (len := 119) 62 202 203 (by decide +kernel) h_71 (by decide) (by decide) (by decide) rfl (by decide) ?_
    refine jblk hF [(.iload_n 1, 1), (.iload_n 2, 1)] (by decide +kernel) (pc' := 205) (lo' := [(0, (0, c)), (1, (0, a)), (2, (0, b))]) (st' := [(0, b), (0, a)]) rfl ?_
    refine jicmp_le hF (off := 7) 212 (by decide +kernel) (by decide) (by omega) (by omega) (fun h_72 => ?_) (fun h_72 => ?_)
    · refine jblk hF [(.iconst 0, 1)] (by decide +kernel) (pc' := 213) (lo' := [(0, (0, c)), (1, (0, a)), (2, (0, b))]) (st' := [(0, 0)]) rfl ?_
      refine jiret hF hr (by decide +kernel) ?_
      exact lV (by unfold bothV; (repeat (first | rw [if_pos (by omega)] | rw [if_neg (by omega)])) <;> first | rfl | omega)
    · refine jblk hF [(.iconst 1, 1)] (by decide +kernel) (pc' := 209) (lo' := [(0, (0, c)), (1, (0, a)), (2, (0, b))]) (st' := [(0, 1)]) rfl ?_
      refine jgoto hF (off := 4) 213 (by decide +kernel) (by decide) ?_
      refine jiret hF hr (by decide +kernel) ?_
      exact lV (by unfold bothV; (repeat (first | rw [if_pos (by omega)] | rw [if_neg (by omega)])) <;> first | rfl | omega)
  refine jtabOut hF (dflt := 227) (lo' := 37) (hi := 62) (offs := #[163, 213, 227, 227, 227, 137, 119, 227, 128, 227, 146, 227, 227, 227, 227, 227, 227, 227, 227, 227, 227, 227, 227, 191, 180, 202]) (len := 119) 228 (by decide +kernel) (by omega) (by omega) (by decide) ?_
  refine jblk hF [(.iload_n 1, 1)] (by decide +kernel) (pc' := 229) (lo' := [(0, (0, c)), (1, (0, a)), (2, (0, b))]) (st' := [(0, a)]) rfl ?_
  refine jif_ne hF (off := 7) 236 (by decide +kernel) (by decide) (by omega) (fun h_73 => ?_) (fun h_73 => ?_)
  · refine jblk hF [(.iconst 1, 1)] (by decide +kernel) (pc' := 237) (lo' := [(0, (0, c)), (1, (0, a)), (2, (0, b))]) (st' := [(0, 1)]) rfl ?_
    refine jgoto hF (off := 4) 241 (by decide +kernel) (by decide) ?_
    refine jiret hF hr (by decide +kernel) ?_
    exact lV (by unfold bothV; (repeat (first | rw [if_pos (by omega)] | rw [if_neg (by omega)])) <;> first | rfl | omega)
  · refine jblk hF [(.iload_n 2, 1)] (by decide +kernel) (pc' := 233) (lo' := [(0, (0, c)), (1, (0, a)), (2, (0, b))]) (st' := [(0, b)]) rfl ?_
    refine jif_eq hF (off := 7) 240 (by decide +kernel) (by decide) (by omega) (fun h_74 => ?_) (fun h_74 => ?_)
    · refine jblk hF [(.iconst 0, 1)] (by decide +kernel) (pc' := 241) (lo' := [(0, (0, c)), (1, (0, a)), (2, (0, b))]) (st' := [(0, 0)]) rfl ?_
      refine jiret hF hr (by decide +kernel) ?_
      exact lV (by unfold bothV; (repeat (first | rw [if_pos (by omega)] | rw [if_neg (by omega)])) <;> first | rfl | omega)
    · refine jblk hF [(.iconst 1, 1)] (by decide +kernel) (pc' := 237) (lo' := [(0, (0, c)), (1, (0, a)), (2, (0, b))]) (st' := [(0, 1)]) rfl ?_
      refine jgoto hF (off := 4) 241 (by decide +kernel) (by decide) ?_
      refine jiret hF hr (by decide +kernel) ?_
      exact lV (by unfold bothV; (repeat (first | rw [if_pos (by omega)] | rw [if_neg (by omega)])) <;> first | rfl | omega)
set_option maxHeartbeats 4000000 in
set_option maxRecDepth 100000 in
theorem c_X12_work {l : Launch} {g : GP} (hG : GH g) {kd : Int → Nat} {ln : Int → Int} {mem : Int → Int → Int} {sz : Nat} (hS : SK kd ln) (hR : SR mem) (c : List Int) (t : Int) (w : Int) (hrun : runC (mem 43) c (some []) = some [w]) (ht : t = 2 ∨ t = 3) (hsg : SG (mem 41) (mem 35 19) (c ++ [t])) (hval : ∀ x ∈ c, 0 ≤ x ∧ x ≤ 9999) (hlen : (c.length : Int) ≤ 340) (hrd : 0 ≤ mem 35 19 ∧ mem 35 19 + c.length + 1 ≤ 7440) (hlt : InI (mem 43 98) ∧ InI (mem 43 110) ∧ InI (mem 43 120)) : MT l g yX12_work cX12_work 3 (some .int) 3 0 0 [(2, 35)] kd ln mem sz (pMR 0 (fun v mem' => SR mem' ∧ (v = w ∧ mem' 35 19 = mem 35 19 + c.length + 1 ∧ WKF mem mem')) kd ln sz) := by
  refine MT_of hG (by decide +kernel) (Nat.le_of_ble_eq_true rfl) (fun z hF hr hn => ?_)
  refine jblk hF [(.iconst 0, 1), (.istore_n 1, 1)] (by decide +kernel) (pc' := 2) (lo' := [(1, (0, 0)), (0, (2, 35))]) (st' := []) rfl ?_
  have L_2 : ∀ (fu_3 : Nat) (nn : Int) (m3 : Int → Int → Int) (rest : List Int) (st : List Int), (SR m3) → (WKF mem m3) → (SG (mem 41) (m3 35 19) (rest ++ [t])) → (runC (mem 43) rest (some st) = some [w]) → (PIL (m3 44) st) → (∀ x ∈ st, InI x) → (∀ x ∈ rest, 0 ≤ x ∧ x ≤ 9999) → (nn = st.length ∧ 2 * nn ≤ m3 35 19 - mem 35 19 ∧ m3 35 19 + rest.length = mem 35 19 + c.length ∧ mem 35 19 ≤ m3 35 19) →  rest.length < fu_3 → J z g 3 0 0 (QM z g 0 0 (pMR 0 (fun v mem' => SR mem' ∧ (v = w ∧ mem' 35 19 = mem 35 19 + c.length + 1 ∧ WKF mem mem')) kd ln sz)) 2 [(0, (2, 35)), (1, (0, nn))] [] kd ln m3 sz := by
    intro fu_3
    induction fu_3 with
    | zero => intro nn m3 rest st _ _ _ _ _ _ _ _ hm; omega
    | succ fu_3 ih_1 =>
      intro nn m3 rest st hR_m3 hfr hsg3 hrun3 hpil hst hval3 hnn hm
      have e41 : ∀ j : Int, m3 41 j = mem 41 j := fun j => hfr 41 j (by decide) (by omega)
      have e43 : ∀ j : Int, m3 43 j = mem 43 j := fun j => hfr 43 j (by decide) (by omega)
      have hy := SG_hd hsg3 hval3 ht
      rw [← e41] at hy
      refine jblk hF [(.aload_n 0, 1)] (by decide +kernel) (pc' := 3) (lo' := [(0, (2, 35)), (1, (0, nn))]) (st' := [(2, 35)]) rfl ?_
      refine jget hF 13 9 2 9 rfl (by decide) (by decide) rfl wd_1472 (by decide +kernel) (by exact hS.k35) ?_
      rw [SR.r9 hR_m3]
      refine jblk hF [(.aload_n 0, 1)] (by decide +kernel) (pc' := 7) (lo' := [(0, (2, 35)), (1, (0, nn))]) (st' := [(2, 35), (2, 41)]) rfl ?_
      refine jget hF 13 19 0 19 rfl (by decide) (by decide) rfl wd_1482 (by decide +kernel) (by exact hS.k35) ?_
      refine jiald hF (by decide +kernel) (by exact hS.k41) (by omega) (by have := hS.l41; omega) ?_
      refine jblk hF [(.iconst 2, 1)] (by decide +kernel) (pc' := 12) (lo' := [(0, (2, 35)), (1, (0, nn))]) (st' := [(0, 2), (0, m3 41 (m3 35 19))]) rfl ?_
      refine jicmp_eq hF (off := 162) 174 (by decide +kernel) (by decide) (by omega) (by decide) (fun h_4 => ?_) (fun h_4 => ?_)
      · refine jblk hF [(.aload_n 0, 1), (.dup, 1)] (by decide +kernel) (pc' := 176) (lo' := [(0, (2, 35)), (1, (0, nn))]) (st' := [(2, 35), (2, 35)]) rfl ?_
        refine jget hF 13 19 0 19 rfl (by decide) (by decide) rfl wd_1482 (by decide +kernel) (by exact hS.k35) ?_
        refine jblk hF [(.iconst 1, 1), (.iadd, 1)] (by decide +kernel) (pc' := 181) (lo' := [(0, (2, 35)), (1, (0, nn))]) (st' := [(0, (m3 35 19) + 1), (2, 35)]) rfl ?_
        refine jput hF 13 19 0 19 rfl (by decide) (by decide) rfl wd_1482 (by decide +kernel) rfl (Or.inl rfl) (by exact hS.k35) (fun h => by cases h) ?_
        refine jblk hF [(.aload_n 0, 1)] (by decide +kernel) (pc' := 185) (lo' := [(0, (2, 35)), (1, (0, nn))]) (st' := [(2, 35)]) rfl ?_
        refine jget hF 13 18 2 18 rfl (by decide) (by decide) rfl wd_1481 (by decide +kernel) (by exact hS.k35) ?_
        rw [SR.r18 (SR.s hR_m3 (Or.inr (by decide)))]
        refine jblk hF [(.iconst 0, 1)] (by decide +kernel) (pc' := 189) (lo' := [(0, (2, 35)), (1, (0, nn))]) (st' := [(0, 0), (2, 44)]) rfl ?_
        refine jiald hF (by decide +kernel) (by exact hS.k44) (by omega) (by have := hS.l44; omega) ?_
        rw [show (set2 m3 35 19 ((m3 35 19) + 1)) 44 0 = m3 44 0 from (s2_a (by decide))]
        refine jiret hF hr (by decide +kernel) ?_
        exact lMR ⟨(SR.s hR_m3 (Or.inr (by decide))), by (obtain ⟨hr0, hs0⟩ := W_end hrun3 hsg3 (by rw [← e41]; omega); subst hr0; subst hs0; refine ⟨hpil.1, ?_, ?_⟩; (rw [s2_s]; have h9 := hnn.2.2.1; rw [List.length_nil] at h9; omega); (intro a j q1 q2; rw [show set2 m3 35 19 (m3 35 19 + 1) a j = m3 a j from if_neg q2]; exact hfr a j q1 q2))⟩
      · refine jblk hF [(.aload_n 0, 1)] (by decide +kernel) (pc' := 16) (lo' := [(0, (2, 35)), (1, (0, nn))]) (st' := [(2, 35)]) rfl ?_
        refine jget hF 13 9 2 9 rfl (by decide) (by decide) rfl wd_1472 (by decide +kernel) (by exact hS.k35) ?_
        rw [SR.r9 hR_m3]
        refine jblk hF [(.aload_n 0, 1)] (by decide +kernel) (pc' := 20) (lo' := [(0, (2, 35)), (1, (0, nn))]) (st' := [(2, 35), (2, 41)]) rfl ?_
        refine jget hF 13 19 0 19 rfl (by decide) (by decide) rfl wd_1482 (by decide +kernel) (by exact hS.k35) ?_
        refine jiald hF (by decide +kernel) (by exact hS.k41) (by omega) (by have := hS.l41; omega) ?_
        refine jblk hF [(.iconst 3, 1)] (by decide +kernel) (pc' := 25) (lo' := [(0, (2, 35)), (1, (0, nn))]) (st' := [(0, 3), (0, m3 41 (m3 35 19))]) rfl ?_
        refine jicmp_eq hF (off := 149) 174 (by decide +kernel) (by decide) (by omega) (by decide) (fun h_5 => ?_) (fun h_5 => ?_)
        · refine jblk hF [(.aload_n 0, 1), (.dup, 1)] (by decide +kernel) (pc' := 176) (lo' := [(0, (2, 35)), (1, (0, nn))]) (st' := [(2, 35), (2, 35)]) rfl ?_
          refine jget hF 13 19 0 19 rfl (by decide) (by decide) rfl wd_1482 (by decide +kernel) (by exact hS.k35) ?_
          refine jblk hF [(.iconst 1, 1), (.iadd, 1)] (by decide +kernel) (pc' := 181) (lo' := [(0, (2, 35)), (1, (0, nn))]) (st' := [(0, (m3 35 19) + 1), (2, 35)]) rfl ?_
          refine jput hF 13 19 0 19 rfl (by decide) (by decide) rfl wd_1482 (by decide +kernel) rfl (Or.inl rfl) (by exact hS.k35) (fun h => by cases h) ?_
          refine jblk hF [(.aload_n 0, 1)] (by decide +kernel) (pc' := 185) (lo' := [(0, (2, 35)), (1, (0, nn))]) (st' := [(2, 35)]) rfl ?_
          refine jget hF 13 18 2 18 rfl (by decide) (by decide) rfl wd_1481 (by decide +kernel) (by exact hS.k35) ?_
          rw [SR.r18 (SR.s hR_m3 (Or.inr (by decide)))]
          refine jblk hF [(.iconst 0, 1)] (by decide +kernel) (pc' := 189) (lo' := [(0, (2, 35)), (1, (0, nn))]) (st' := [(0, 0), (2, 44)]) rfl ?_
          refine jiald hF (by decide +kernel) (by exact hS.k44) (by omega) (by have := hS.l44; omega) ?_
          rw [show (set2 m3 35 19 ((m3 35 19) + 1)) 44 0 = m3 44 0 from (s2_a (by decide))]
          refine jiret hF hr (by decide +kernel) ?_
          exact lMR ⟨(SR.s hR_m3 (Or.inr (by decide))), by (obtain ⟨hr0, hs0⟩ := W_end hrun3 hsg3 (by rw [← e41]; omega); subst hr0; subst hs0; refine ⟨hpil.1, ?_, ?_⟩; (rw [s2_s]; have h9 := hnn.2.2.1; rw [List.length_nil] at h9; omega); (intro a j q1 q2; rw [show set2 m3 35 19 (m3 35 19 + 1) a j = m3 a j from if_neg q2]; exact hfr a j q1 q2))⟩
        · refine jblk hF [(.aload_n 0, 1)] (by decide +kernel) (pc' := 29) (lo' := [(0, (2, 35)), (1, (0, nn))]) (st' := [(2, 35)]) rfl ?_
          refine jget hF 13 9 2 9 rfl (by decide) (by decide) rfl wd_1472 (by decide +kernel) (by exact hS.k35) ?_
          rw [SR.r9 hR_m3]
          refine jblk hF [(.aload_n 0, 1)] (by decide +kernel) (pc' := 33) (lo' := [(0, (2, 35)), (1, (0, nn))]) (st' := [(2, 35), (2, 41)]) rfl ?_
          refine jget hF 13 19 0 19 rfl (by decide) (by decide) rfl wd_1482 (by decide +kernel) (by exact hS.k35) ?_
          refine jiald hF (by decide +kernel) (by exact hS.k41) (by omega) (by have := hS.l41; omega) ?_
          refine jblk hF [(.istore_n 2, 1), (.aload_n 0, 1), (.dup, 1)] (by decide +kernel) (pc' := 40) (lo' := [(2, (0, m3 41 (m3 35 19))), (0, (2, 35)), (1, (0, nn))]) (st' := [(2, 35), (2, 35)]) rfl ?_
          refine jget hF 13 19 0 19 rfl (by decide) (by decide) rfl wd_1482 (by decide +kernel) (by exact hS.k35) ?_
          refine jblk hF [(.iconst 1, 1), (.iadd, 1)] (by decide +kernel) (pc' := 45) (lo' := [(2, (0, m3 41 (m3 35 19))), (0, (2, 35)), (1, (0, nn))]) (st' := [(0, (m3 35 19) + 1), (2, 35)]) rfl ?_
          refine jput hF 13 19 0 19 rfl (by decide) (by decide) rfl wd_1482 (by decide +kernel) rfl (Or.inl rfl) (by exact hS.k35) (fun h => by cases h) ?_
          refine jblk hF [(.iload_n 2, 1)] (by decide +kernel) (pc' := 49) (lo' := [(2, (0, m3 41 (m3 35 19))), (0, (2, 35)), (1, (0, nn))]) (st' := [(0, m3 41 (m3 35 19))]) rfl ?_
          refine jif_eq hF (off := 8) 57 (by decide +kernel) (by decide) (by omega) (fun h_6 => ?_) (fun h_6 => ?_)
          · refine jblk hF [(.aload_n 0, 1)] (by decide +kernel) (pc' := 58) (lo' := [(2, (0, m3 41 (m3 35 19))), (0, (2, 35)), (1, (0, nn))]) (st' := [(2, 35)]) rfl ?_
            refine jget hF 13 18 2 18 rfl (by decide) (by decide) rfl wd_1481 (by decide +kernel) (by exact hS.k35) ?_
            rw [SR.r18 (SR.s hR_m3 (Or.inr (by decide)))]
            refine jblk hF [(.iload_n 1, 1), (.iload_n 2, 1)] (by decide +kernel) (pc' := 63) (lo' := [(2, (0, m3 41 (m3 35 19))), (0, (2, 35)), (1, (0, nn))]) (st' := [(0, m3 41 (m3 35 19)), (0, nn), (2, 44)]) rfl ?_
            refine jif_ne hF (off := 15) 78 (by decide +kernel) (by decide) (by omega) (fun h_7 => ?_) (fun h_7 => ?_)
            · obtain ⟨rest2, st2, hWS, hin, hst2⟩ := W_let hrun3 ht hsg3 (by rw [← e41]; omega)
              have hlr := hWS.1
              rw [← e41] at hin
              rw [← e41, ← e43] at hst2
              obtain ⟨kq, hkq⟩ : ∃ kq : Nat, kq = 2 := ⟨2, rfl⟩
              rw [← hkq] at hWS
              have hst3 : ∀ x ∈ st2, InI x := by rw [hst2]; intro x hx; rcases List.mem_cons.mp hx with q | q; (rw [q, e43]; rcases hin with g | g | g <;> (rw [g]; first | exact hlt.1 | exact hlt.2.1 | exact hlt.2.2)); exact hst x q
              have hns : st2.length = st.length + 1 := by rw [hst2]; rfl
              refine jblk hF [(.aload_n 0, 1)] (by decide +kernel) (pc' := 79) (lo' := [(2, (0, m3 41 (m3 35 19))), (0, (2, 35)), (1, (0, nn))]) (st' := [(2, 35), (0, nn), (2, 44)]) rfl ?_
              refine jget hF 13 17 2 17 rfl (by decide) (by decide) rfl wd_1480 (by decide +kernel) (by exact hS.k35) ?_
              rw [SR.r17 (SR.s hR_m3 (Or.inr (by decide)))]
              refine jblk hF [(.aload_n 0, 1)] (by decide +kernel) (pc' := 83) (lo' := [(2, (0, m3 41 (m3 35 19))), (0, (2, 35)), (1, (0, nn))]) (st' := [(2, 35), (2, 43), (0, nn), (2, 44)]) rfl ?_
              refine jget hF 13 9 2 9 rfl (by decide) (by decide) rfl wd_1472 (by decide +kernel) (by exact hS.k35) ?_
              rw [SR.r9 (SR.s hR_m3 (Or.inr (by decide)))]
              refine jblk hF [(.aload_n 0, 1)] (by decide +kernel) (pc' := 87) (lo' := [(2, (0, m3 41 (m3 35 19))), (0, (2, 35)), (1, (0, nn))]) (st' := [(2, 35), (2, 41), (2, 43), (0, nn), (2, 44)]) rfl ?_
              refine jget hF 13 19 0 19 rfl (by decide) (by decide) rfl wd_1482 (by decide +kernel) (by exact hS.k35) ?_
              rw [show (set2 m3 35 19 ((m3 35 19) + 1)) 35 19 = (m3 35 19) + 1 from s2_s]
              refine jiald hF (by decide +kernel) (by exact hS.k41) (by omega) (by have := hS.l41; omega) ?_
              rw [show (set2 m3 35 19 ((m3 35 19) + 1)) 41 ((m3 35 19) + 1) = m3 41 ((m3 35 19) + 1) from (s2_a (by decide))]
              refine jiald hF (by decide +kernel) (by exact hS.k43) (by omega) (by have := hS.l43; omega) ?_
              rw [show (set2 m3 35 19 ((m3 35 19) + 1)) 43 (m3 41 ((m3 35 19) + 1)) = m3 43 (m3 41 ((m3 35 19) + 1)) from (s2_a (by decide))]
              refine jiast hF (by decide +kernel) (by decide) (by exact hS.k44) (by omega) (by have := hS.l44; omega) ?_
              refine jblk hF [(.aload_n 0, 1), (.dup, 1)] (by decide +kernel) (pc' := 95) (lo' := [(2, (0, m3 41 (m3 35 19))), (0, (2, 35)), (1, (0, nn))]) (st' := [(2, 35), (2, 35)]) rfl ?_
              refine jget hF 13 19 0 19 rfl (by decide) (by decide) rfl wd_1482 (by decide +kernel) (by exact hS.k35) ?_
              rw [show (set2 (set2 m3 35 19 ((m3 35 19) + 1)) 44 nn (m3 43 (m3 41 ((m3 35 19) + 1)))) 35 19 = (m3 35 19) + 1 from ((s2_a (by decide)).trans s2_s)]
              refine jblk hF [(.iconst 1, 1), (.iadd, 1)] (by decide +kernel) (pc' := 100) (lo' := [(2, (0, m3 41 (m3 35 19))), (0, (2, 35)), (1, (0, nn))]) (st' := [(0, ((m3 35 19) + 1) + 1), (2, 35)]) rfl ?_
              refine jput hF 13 19 0 19 rfl (by decide) (by decide) rfl wd_1482 (by decide +kernel) rfl (Or.inl rfl) (by exact hS.k35) (fun h => by cases h) ?_
              refine jblk hF [(.iinc 1 1, 3)] (by decide +kernel) (pc' := 106) (lo' := [(1, (0, nn + 1)), (2, (0, m3 41 (m3 35 19))), (0, (2, 35))]) (st' := []) rfl ?_
              have hp9 : PIL ((set2 (set2 (set2 m3 35 19 ((m3 35 19) + 1)) 44 nn (m3 43 (m3 41 ((m3 35 19) + 1)))) 35 19 (((m3 35 19) + 1) + 1)) 44) st2 := by rw [hst2]; exact hpil.push (by rw [← hnn.1]; simp [set2]) (fun j q => by rw [← hnn.1] at q; simp [set2, q])
              refine jgoto hF (off := 65) 171 (by decide +kernel) (by decide) ?_
              have hp8 : PIL ((set2 (set2 (set2 m3 35 19 ((m3 35 19) + 1)) 44 nn (m3 43 (m3 41 ((m3 35 19) + 1)))) 35 19 (((m3 35 19) + 1) + 1)) 44) st2 := by first | exact hp9 | (rw [hst2]; exact ⟨by rw [show (qs.length : Int) = nn + (-1) - 1 by omega, s2_s, hqa, hqc], hqp.2.2.congr (fun j q1 q2 => by rw [s2_k (by omega), s2_a (by decide)])⟩)
              have hf9 : WKF m3 (set2 (set2 (set2 m3 35 19 ((m3 35 19) + 1)) 44 nn (m3 43 (m3 41 ((m3 35 19) + 1)))) 35 19 (((m3 35 19) + 1) + 1)) := by intro a j q1 q2; simp only [set2]; (repeat' split) <;> first | rfl | (exfalso; omega)
              have e19 : (set2 (set2 (set2 m3 35 19 ((m3 35 19) + 1)) 44 nn (m3 43 (m3 41 ((m3 35 19) + 1)))) 35 19 (((m3 35 19) + 1) + 1)) 35 19 = m3 35 19 + (kq : Int) := by simp [set2]; omega
              refine jgoto hF (off := (-169)) 2 (by decide +kernel) (by decide) ?_
              refine jsub [2, 0] rfl ?_
              refine ih_1 (nn + 1) (set2 (set2 (set2 m3 35 19 ((m3 35 19) + 1)) 44 nn (m3 43 (m3 41 ((m3 35 19) + 1)))) 35 19 (((m3 35 19) + 1) + 1)) rest2 st2 ?_ ?_ ?_ ?_ ?_ ?_ ?_ ?_ ?_
              · exact (SR.s (SR.s (SR.s hR_m3 (Or.inr (by decide))) (Or.inl (by decide))) (Or.inr (by decide)))
              · exact fun a j q1 q2 => (hf9 a j q1 q2).trans (hfr a j q1 q2)
              · rw [e19]; exact hWS.2.2.1
              · exact hWS.2.2.2
              · exact hp8
              · exact hst3
              · exact fun x hx => hval3 x (hWS.2.1 x hx)
              · rw [e19]; omega
              · omega
            · obtain ⟨rest2, st2, hWS, hin, hst2⟩ := W_num hrun3 ht hsg3 (by rw [← e41]; omega)
              have hlr := hWS.1
              have hv9 := hval3 _ hin
              rw [← e41] at hv9 hst2
              obtain ⟨kq, hkq⟩ : ∃ kq : Nat, kq = 2 := ⟨2, rfl⟩
              rw [← hkq] at hWS
              have hst3 : ∀ x ∈ st2, InI x := by rw [hst2]; intro x hx; rcases List.mem_cons.mp hx with q | q; (rw [q]; exact ⟨by omega, by omega⟩); exact hst x q
              have hns : st2.length = st.length + 1 := by rw [hst2]; rfl
              refine jblk hF [(.aload_n 0, 1)] (by decide +kernel) (pc' := 67) (lo' := [(2, (0, m3 41 (m3 35 19))), (0, (2, 35)), (1, (0, nn))]) (st' := [(2, 35), (0, nn), (2, 44)]) rfl ?_
              refine jget hF 13 9 2 9 rfl (by decide) (by decide) rfl wd_1472 (by decide +kernel) (by exact hS.k35) ?_
              rw [SR.r9 (SR.s hR_m3 (Or.inr (by decide)))]
              refine jblk hF [(.aload_n 0, 1)] (by decide +kernel) (pc' := 71) (lo' := [(2, (0, m3 41 (m3 35 19))), (0, (2, 35)), (1, (0, nn))]) (st' := [(2, 35), (2, 41), (0, nn), (2, 44)]) rfl ?_
              refine jget hF 13 19 0 19 rfl (by decide) (by decide) rfl wd_1482 (by decide +kernel) (by exact hS.k35) ?_
              rw [show (set2 m3 35 19 ((m3 35 19) + 1)) 35 19 = (m3 35 19) + 1 from s2_s]
              refine jiald hF (by decide +kernel) (by exact hS.k41) (by omega) (by have := hS.l41; omega) ?_
              rw [show (set2 m3 35 19 ((m3 35 19) + 1)) 41 ((m3 35 19) + 1) = m3 41 ((m3 35 19) + 1) from (s2_a (by decide))]
              refine jgoto hF (off := 17) 92 (by decide +kernel) (by decide) ?_
              refine jiast hF (by decide +kernel) (by decide) (by exact hS.k44) (by omega) (by have := hS.l44; omega) ?_
              refine jblk hF [(.aload_n 0, 1), (.dup, 1)] (by decide +kernel) (pc' := 95) (lo' := [(2, (0, m3 41 (m3 35 19))), (0, (2, 35)), (1, (0, nn))]) (st' := [(2, 35), (2, 35)]) rfl ?_
              refine jget hF 13 19 0 19 rfl (by decide) (by decide) rfl wd_1482 (by decide +kernel) (by exact hS.k35) ?_
              rw [show (set2 (set2 m3 35 19 ((m3 35 19) + 1)) 44 nn (m3 41 ((m3 35 19) + 1))) 35 19 = (m3 35 19) + 1 from ((s2_a (by decide)).trans s2_s)]
              refine jblk hF [(.iconst 1, 1), (.iadd, 1)] (by decide +kernel) (pc' := 100) (lo' := [(2, (0, m3 41 (m3 35 19))), (0, (2, 35)), (1, (0, nn))]) (st' := [(0, ((m3 35 19) + 1) + 1), (2, 35)]) rfl ?_
              refine jput hF 13 19 0 19 rfl (by decide) (by decide) rfl wd_1482 (by decide +kernel) rfl (Or.inl rfl) (by exact hS.k35) (fun h => by cases h) ?_
              refine jblk hF [(.iinc 1 1, 3)] (by decide +kernel) (pc' := 106) (lo' := [(1, (0, nn + 1)), (2, (0, m3 41 (m3 35 19))), (0, (2, 35))]) (st' := []) rfl ?_
              have hp9 : PIL ((set2 (set2 (set2 m3 35 19 ((m3 35 19) + 1)) 44 nn (m3 41 ((m3 35 19) + 1))) 35 19 (((m3 35 19) + 1) + 1)) 44) st2 := by rw [hst2]; exact hpil.push (by rw [← hnn.1]; simp [set2]) (fun j q => by rw [← hnn.1] at q; simp [set2, q])
              refine jgoto hF (off := 65) 171 (by decide +kernel) (by decide) ?_
              have hp8 : PIL ((set2 (set2 (set2 m3 35 19 ((m3 35 19) + 1)) 44 nn (m3 41 ((m3 35 19) + 1))) 35 19 (((m3 35 19) + 1) + 1)) 44) st2 := by first | exact hp9 | (rw [hst2]; exact ⟨by rw [show (qs.length : Int) = nn + (-1) - 1 by omega, s2_s, hqa, hqc], hqp.2.2.congr (fun j q1 q2 => by rw [s2_k (by omega), s2_a (by decide)])⟩)
              have hf9 : WKF m3 (set2 (set2 (set2 m3 35 19 ((m3 35 19) + 1)) 44 nn (m3 41 ((m3 35 19) + 1))) 35 19 (((m3 35 19) + 1) + 1)) := by intro a j q1 q2; simp only [set2]; (repeat' split) <;> first | rfl | (exfalso; omega)
              have e19 : (set2 (set2 (set2 m3 35 19 ((m3 35 19) + 1)) 44 nn (m3 41 ((m3 35 19) + 1))) 35 19 (((m3 35 19) + 1) + 1)) 35 19 = m3 35 19 + (kq : Int) := by simp [set2]; omega
              refine jgoto hF (off := (-169)) 2 (by decide +kernel) (by decide) ?_
              refine jsub [2, 0] rfl ?_
              refine ih_1 (nn + 1) (set2 (set2 (set2 m3 35 19 ((m3 35 19) + 1)) 44 nn (m3 41 ((m3 35 19) + 1))) 35 19 (((m3 35 19) + 1) + 1)) rest2 st2 ?_ ?_ ?_ ?_ ?_ ?_ ?_ ?_ ?_
              · exact (SR.s (SR.s (SR.s hR_m3 (Or.inr (by decide))) (Or.inl (by decide))) (Or.inr (by decide)))
              · exact fun a j q1 q2 => (hf9 a j q1 q2).trans (hfr a j q1 q2)
              · rw [e19]; exact hWS.2.2.1
              · exact hWS.2.2.2
              · exact hp8
              · exact hst3
              · exact fun x hx => hval3 x (hWS.2.1 x hx)
              · rw [e19]; omega
              · omega
          · refine jblk hF [(.iload_n 2, 1), (.iconst 1, 1)] (by decide +kernel) (pc' := 54) (lo' := [(2, (0, m3 41 (m3 35 19))), (0, (2, 35)), (1, (0, nn))]) (st' := [(0, 1), (0, m3 41 (m3 35 19))]) rfl ?_
            refine jicmp_ne hF (off := 55) 109 (by decide +kernel) (by decide) (by omega) (by decide) (fun h_8 => ?_) (fun h_8 => ?_)
            · refine jblk hF [(.iload_n 2, 1), (.bipush 33, 2)] (by decide +kernel) (pc' := 112) (lo' := [(2, (0, m3 41 (m3 35 19))), (0, (2, 35)), (1, (0, nn))]) (st' := [(0, 33), (0, m3 41 (m3 35 19))]) rfl ?_
              refine jicmp_ne hF (off := 30) 142 (by decide +kernel) (by decide) (by omega) (by decide) (fun h_9 => ?_) (fun h_9 => ?_)
              · obtain ⟨rest2, st2, qa, qc, qs, hop, hWS, hsq, hst2⟩ := W_bin hrun3 ht hsg3 (by rw [← e41]; omega) (by rw [← e41]; omega) (by rw [← e41]; omega) (by rw [← e41]; omega) (by rw [← e41]; omega)
                have hlr := hWS.1
                rw [← e41] at hop hst2
                obtain ⟨kq, hkq⟩ : ∃ kq : Nat, kq = 1 := ⟨1, rfl⟩
                rw [← hkq] at hWS
                have hql : st.length = qs.length + 2 := by rw [hsq]; rfl
                have hqp := hpil
                rw [hsq] at hqp
                have hqc : m3 44 (nn + (-1)) = qc := by rw [show nn + (-1) = ((qa :: qs).length : Int) by rw [List.length_cons]; omega]; exact hqp.1
                have hqa : m3 44 (nn + (-1) - 1) = qa := by rw [show nn + (-1) - 1 = (qs.length : Int) by omega]; exact hqp.2.1
                have hqi : InI qa ∧ InI qc := ⟨hst qa (by rw [hsq]; simp), hst qc (by rw [hsq]; simp)⟩
                have hqb := bothV_bd (m3 41 (m3 35 19)) qa qc
                have hst3 : ∀ x ∈ st2, InI x := by rw [hst2]; intro x hx; rcases List.mem_cons.mp hx with q | q; (rw [q]; exact ⟨by omega, by omega⟩); exact hst x (by rw [hsq]; simp [q])
                have hns : st2.length = qs.length + 1 := by rw [hst2]; rfl
                refine jblk hF [(.iinc 1 (-1), 3), (.aload_n 0, 1)] (by decide +kernel) (pc' := 146) (lo' := [(1, (0, nn + (-1))), (2, (0, m3 41 (m3 35 19))), (0, (2, 35))]) (st' := [(2, 35)]) rfl ?_
                refine jget hF 13 18 2 18 rfl (by decide) (by decide) rfl wd_1481 (by decide +kernel) (by exact hS.k35) ?_
                rw [SR.r18 (SR.s hR_m3 (Or.inr (by decide)))]
                refine jblk hF [(.iload_n 1, 1), (.iconst 1, 1), (.isub, 1), (.iload_n 2, 1), (.aload_n 0, 1)] (by decide +kernel) (pc' := 154) (lo' := [(1, (0, nn + (-1))), (2, (0, m3 41 (m3 35 19))), (0, (2, 35))]) (st' := [(2, 35), (0, m3 41 (m3 35 19)), (0, (nn + (-1)) - 1), (2, 44)]) rfl ?_
                refine jget hF 13 18 2 18 rfl (by decide) (by decide) rfl wd_1481 (by decide +kernel) (by exact hS.k35) ?_
                rw [SR.r18 (SR.s hR_m3 (Or.inr (by decide)))]
                refine jblk hF [(.iload_n 1, 1), (.iconst 1, 1), (.isub, 1)] (by decide +kernel) (pc' := 160) (lo' := [(1, (0, nn + (-1))), (2, (0, m3 41 (m3 35 19))), (0, (2, 35))]) (st' := [(0, (nn + (-1)) - 1), (2, 44), (0, m3 41 (m3 35 19)), (0, (nn + (-1)) - 1), (2, 44)]) rfl ?_
                refine jiald hF (by decide +kernel) (by exact hS.k44) (by omega) (by have := hS.l44; omega) ?_
                rw [show (set2 m3 35 19 ((m3 35 19) + 1)) 44 ((nn + (-1)) - 1) = m3 44 ((nn + (-1)) - 1) from (s2_a (by decide))]
                refine jblk hF [(.aload_n 0, 1)] (by decide +kernel) (pc' := 162) (lo' := [(1, (0, nn + (-1))), (2, (0, m3 41 (m3 35 19))), (0, (2, 35))]) (st' := [(2, 35), (0, m3 44 ((nn + (-1)) - 1)), (0, m3 41 (m3 35 19)), (0, (nn + (-1)) - 1), (2, 44)]) rfl ?_
                refine jget hF 13 18 2 18 rfl (by decide) (by decide) rfl wd_1481 (by decide +kernel) (by exact hS.k35) ?_
                rw [SR.r18 (SR.s hR_m3 (Or.inr (by decide)))]
                refine jblk hF [(.iload_n 1, 1)] (by decide +kernel) (pc' := 166) (lo' := [(1, (0, nn + (-1))), (2, (0, m3 41 (m3 35 19))), (0, (2, 35))]) (st' := [(0, nn + (-1)), (2, 44), (0, m3 44 ((nn + (-1)) - 1)), (0, m3 41 (m3 35 19)), (0, (nn + (-1)) - 1), (2, 44)]) rfl ?_
                refine jiald hF (by decide +kernel) (by exact hS.k44) (by omega) (by have := hS.l44; omega) ?_
                rw [show (set2 m3 35 19 ((m3 35 19) + 1)) 44 (nn + (-1)) = m3 44 (nn + (-1)) from (s2_a (by decide))]
                refine jcallS hF (c_X12_both hG (m3 41 (m3 35 19)) (m3 44 ((nn + (-1)) - 1)) (m3 44 (nn + (-1))) (by assumption) (by omega) (by omega)) MW_X12_both wd_1907 wd_1908 (by decide +kernel) [(0, (nn + (-1)) - 1), (2, 44)] rfl rfl (by decide) (Nat.le_of_ble_eq_true rfl) (by decide) (kV ?_)
                have hf_10 := bothV_bd (m3 41 (m3 35 19)) (m3 44 ((nn + (-1)) - 1)) (m3 44 (nn + (-1)))
                refine jiast hF (by decide +kernel) (by decide) (by exact hS.k44) (by omega) (by have := hS.l44; omega) ?_
                have hp8 : PIL ((set2 (set2 m3 35 19 ((m3 35 19) + 1)) 44 ((nn + (-1)) - 1) (bothV (m3 41 (m3 35 19)) (m3 44 ((nn + (-1)) - 1)) (m3 44 (nn + (-1))))) 44) st2 := by first | exact hp9 | (rw [hst2]; exact ⟨by rw [show (qs.length : Int) = nn + (-1) - 1 by omega, s2_s, hqa, hqc], hqp.2.2.congr (fun j q1 q2 => by rw [s2_k (by omega), s2_a (by decide)])⟩)
                have hf9 : WKF m3 (set2 (set2 m3 35 19 ((m3 35 19) + 1)) 44 ((nn + (-1)) - 1) (bothV (m3 41 (m3 35 19)) (m3 44 ((nn + (-1)) - 1)) (m3 44 (nn + (-1))))) := by intro a j q1 q2; simp only [set2]; (repeat' split) <;> first | rfl | (exfalso; omega)
                have e19 : (set2 (set2 m3 35 19 ((m3 35 19) + 1)) 44 ((nn + (-1)) - 1) (bothV (m3 41 (m3 35 19)) (m3 44 ((nn + (-1)) - 1)) (m3 44 (nn + (-1))))) 35 19 = m3 35 19 + (kq : Int) := by simp [set2]; omega
                refine jgoto hF (off := (-169)) 2 (by decide +kernel) (by decide) ?_
                refine jsub [2, 0] rfl ?_
                refine ih_1 (nn + (-1)) (set2 (set2 m3 35 19 ((m3 35 19) + 1)) 44 ((nn + (-1)) - 1) (bothV (m3 41 (m3 35 19)) (m3 44 ((nn + (-1)) - 1)) (m3 44 (nn + (-1))))) rest2 st2 ?_ ?_ ?_ ?_ ?_ ?_ ?_ ?_ ?_
                · exact (SR.s (SR.s hR_m3 (Or.inr (by decide))) (Or.inl (by decide)))
                · exact fun a j q1 q2 => (hf9 a j q1 q2).trans (hfr a j q1 q2)
                · rw [e19]; exact hWS.2.2.1
                · exact hWS.2.2.2
                · exact hp8
                · exact hst3
                · exact fun x hx => hval3 x (hWS.2.1 x hx)
                · rw [e19]; omega
                · omega
              · obtain ⟨rest2, st2, qa, qs, hWS, hsq, hst2⟩ := W_not hrun3 ht hsg3 (by rw [← e41]; omega)
                have hlr := hWS.1
                obtain ⟨kq, hkq⟩ : ∃ kq : Nat, kq = 1 := ⟨1, rfl⟩
                rw [← hkq] at hWS
                have hql : st.length = qs.length + 1 := by rw [hsq]; rfl
                have hqp := hpil
                rw [hsq] at hqp
                have hqa : m3 44 (nn - 1) = qa := by rw [show nn - 1 = (qs.length : Int) by omega]; exact hqp.1
                have hqi : InI qa := hst qa (by rw [hsq]; simp)
                have hst3 : ∀ x ∈ st2, InI x := by rw [hst2]; intro x hx; rcases List.mem_cons.mp hx with q | q; (rw [q]; unfold notV; split <;> exact ⟨by omega, by omega⟩); exact hst x (by rw [hsq]; simp [q])
                have hns : st2.length = qs.length + 1 := by rw [hst2]; rfl
                refine jblk hF [(.aload_n 0, 1)] (by decide +kernel) (pc' := 116) (lo' := [(2, (0, m3 41 (m3 35 19))), (0, (2, 35)), (1, (0, nn))]) (st' := [(2, 35)]) rfl ?_
                refine jget hF 13 18 2 18 rfl (by decide) (by decide) rfl wd_1481 (by decide +kernel) (by exact hS.k35) ?_
                rw [SR.r18 (SR.s hR_m3 (Or.inr (by decide)))]
                refine jblk hF [(.iload_n 1, 1), (.iconst 1, 1), (.isub, 1), (.aload_n 0, 1)] (by decide +kernel) (pc' := 123) (lo' := [(2, (0, m3 41 (m3 35 19))), (0, (2, 35)), (1, (0, nn))]) (st' := [(2, 35), (0, nn - 1), (2, 44)]) rfl ?_
                refine jget hF 13 18 2 18 rfl (by decide) (by decide) rfl wd_1481 (by decide +kernel) (by exact hS.k35) ?_
                rw [SR.r18 (SR.s hR_m3 (Or.inr (by decide)))]
                refine jblk hF [(.iload_n 1, 1), (.iconst 1, 1), (.isub, 1)] (by decide +kernel) (pc' := 129) (lo' := [(2, (0, m3 41 (m3 35 19))), (0, (2, 35)), (1, (0, nn))]) (st' := [(0, nn - 1), (2, 44), (0, nn - 1), (2, 44)]) rfl ?_
                refine jiald hF (by decide +kernel) (by exact hS.k44) (by omega) (by have := hS.l44; omega) ?_
                rw [show (set2 m3 35 19 ((m3 35 19) + 1)) 44 (nn - 1) = m3 44 (nn - 1) from (s2_a (by decide))]
                refine jif_ne hF (off := 7) 137 (by decide +kernel) (by decide) (by omega) (fun h_11 => ?_) (fun h_11 => ?_)
                · refine jblk hF [(.iconst 0, 1)] (by decide +kernel) (pc' := 138) (lo' := [(2, (0, m3 41 (m3 35 19))), (0, (2, 35)), (1, (0, nn))]) (st' := [(0, 0), (0, nn - 1), (2, 44)]) rfl ?_
                  refine jiast hF (by decide +kernel) (by decide) (by exact hS.k44) (by omega) (by have := hS.l44; omega) ?_
                  have hp9 : PIL ((set2 (set2 m3 35 19 ((m3 35 19) + 1)) 44 (nn - 1) 0) 44) st2 := by rw [hst2]; exact ⟨by rw [show (qs.length : Int) = nn - 1 by omega, s2_s]; unfold notV; split <;> omega, hqp.2.congr (fun j q1 q2 => by rw [s2_k (by omega), s2_a (by decide)])⟩
                  refine jgoto hF (off := 32) 171 (by decide +kernel) (by decide) ?_
                  have hp8 : PIL ((set2 (set2 m3 35 19 ((m3 35 19) + 1)) 44 (nn - 1) 0) 44) st2 := by first | exact hp9 | (rw [hst2]; exact ⟨by rw [show (qs.length : Int) = nn + (-1) - 1 by omega, s2_s, hqa, hqc], hqp.2.2.congr (fun j q1 q2 => by rw [s2_k (by omega), s2_a (by decide)])⟩)
                  have hf9 : WKF m3 (set2 (set2 m3 35 19 ((m3 35 19) + 1)) 44 (nn - 1) 0) := by intro a j q1 q2; simp only [set2]; (repeat' split) <;> first | rfl | (exfalso; omega)
                  have e19 : (set2 (set2 m3 35 19 ((m3 35 19) + 1)) 44 (nn - 1) 0) 35 19 = m3 35 19 + (kq : Int) := by simp [set2]; omega
                  refine jgoto hF (off := (-169)) 2 (by decide +kernel) (by decide) ?_
                  refine jsub [1, 2] rfl ?_
                  refine ih_1 nn (set2 (set2 m3 35 19 ((m3 35 19) + 1)) 44 (nn - 1) 0) rest2 st2 ?_ ?_ ?_ ?_ ?_ ?_ ?_ ?_ ?_
                  · exact (SR.s (SR.s hR_m3 (Or.inr (by decide))) (Or.inl (by decide)))
                  · exact fun a j q1 q2 => (hf9 a j q1 q2).trans (hfr a j q1 q2)
                  · rw [e19]; exact hWS.2.2.1
                  · exact hWS.2.2.2
                  · exact hp8
                  · exact hst3
                  · exact fun x hx => hval3 x (hWS.2.1 x hx)
                  · rw [e19]; omega
                  · omega
                · refine jblk hF [(.iconst 1, 1)] (by decide +kernel) (pc' := 134) (lo' := [(2, (0, m3 41 (m3 35 19))), (0, (2, 35)), (1, (0, nn))]) (st' := [(0, 1), (0, nn - 1), (2, 44)]) rfl ?_
                  refine jgoto hF (off := 4) 138 (by decide +kernel) (by decide) ?_
                  refine jiast hF (by decide +kernel) (by decide) (by exact hS.k44) (by omega) (by have := hS.l44; omega) ?_
                  have hp9 : PIL ((set2 (set2 m3 35 19 ((m3 35 19) + 1)) 44 (nn - 1) 1) 44) st2 := by rw [hst2]; exact ⟨by rw [show (qs.length : Int) = nn - 1 by omega, s2_s]; unfold notV; split <;> omega, hqp.2.congr (fun j q1 q2 => by rw [s2_k (by omega), s2_a (by decide)])⟩
                  refine jgoto hF (off := 32) 171 (by decide +kernel) (by decide) ?_
                  have hp8 : PIL ((set2 (set2 m3 35 19 ((m3 35 19) + 1)) 44 (nn - 1) 1) 44) st2 := by first | exact hp9 | (rw [hst2]; exact ⟨by rw [show (qs.length : Int) = nn + (-1) - 1 by omega, s2_s, hqa, hqc], hqp.2.2.congr (fun j q1 q2 => by rw [s2_k (by omega), s2_a (by decide)])⟩)
                  have hf9 : WKF m3 (set2 (set2 m3 35 19 ((m3 35 19) + 1)) 44 (nn - 1) 1) := by intro a j q1 q2; simp only [set2]; (repeat' split) <;> first | rfl | (exfalso; omega)
                  have e19 : (set2 (set2 m3 35 19 ((m3 35 19) + 1)) 44 (nn - 1) 1) 35 19 = m3 35 19 + (kq : Int) := by simp [set2]; omega
                  refine jgoto hF (off := (-169)) 2 (by decide +kernel) (by decide) ?_
                  refine jsub [1, 2] rfl ?_
                  refine ih_1 nn (set2 (set2 m3 35 19 ((m3 35 19) + 1)) 44 (nn - 1) 1) rest2 st2 ?_ ?_ ?_ ?_ ?_ ?_ ?_ ?_ ?_
                  · exact (SR.s (SR.s hR_m3 (Or.inr (by decide))) (Or.inl (by decide)))
                  · exact fun a j q1 q2 => (hf9 a j q1 q2).trans (hfr a j q1 q2)
                  · rw [e19]; exact hWS.2.2.1
                  · exact hWS.2.2.2
                  · exact hp8
                  · exact hst3
                  · exact fun x hx => hval3 x (hWS.2.1 x hx)
                  · rw [e19]; omega
                  · omega
            · refine jblk hF [(.aload_n 0, 1)] (by decide +kernel) (pc' := 58) (lo' := [(2, (0, m3 41 (m3 35 19))), (0, (2, 35)), (1, (0, nn))]) (st' := [(2, 35)]) rfl ?_
              refine jget hF 13 18 2 18 rfl (by decide) (by decide) rfl wd_1481 (by decide +kernel) (by exact hS.k35) ?_
              rw [SR.r18 (SR.s hR_m3 (Or.inr (by decide)))]
              refine jblk hF [(.iload_n 1, 1), (.iload_n 2, 1)] (by decide +kernel) (pc' := 63) (lo' := [(2, (0, m3 41 (m3 35 19))), (0, (2, 35)), (1, (0, nn))]) (st' := [(0, m3 41 (m3 35 19)), (0, nn), (2, 44)]) rfl ?_
              refine jif_ne hF (off := 15) 78 (by decide +kernel) (by decide) (by omega) (fun h_12 => ?_) (fun h_12 => ?_)
              · obtain ⟨rest2, st2, hWS, hin, hst2⟩ := W_let hrun3 ht hsg3 (by rw [← e41]; omega)
                have hlr := hWS.1
                rw [← e41] at hin
                rw [← e41, ← e43] at hst2
                obtain ⟨kq, hkq⟩ : ∃ kq : Nat, kq = 2 := ⟨2, rfl⟩
                rw [← hkq] at hWS
                have hst3 : ∀ x ∈ st2, InI x := by rw [hst2]; intro x hx; rcases List.mem_cons.mp hx with q | q; (rw [q, e43]; rcases hin with g | g | g <;> (rw [g]; first | exact hlt.1 | exact hlt.2.1 | exact hlt.2.2)); exact hst x q
                have hns : st2.length = st.length + 1 := by rw [hst2]; rfl
                refine jblk hF [(.aload_n 0, 1)] (by decide +kernel) (pc' := 79) (lo' := [(2, (0, m3 41 (m3 35 19))), (0, (2, 35)), (1, (0, nn))]) (st' := [(2, 35), (0, nn), (2, 44)]) rfl ?_
                refine jget hF 13 17 2 17 rfl (by decide) (by decide) rfl wd_1480 (by decide +kernel) (by exact hS.k35) ?_
                rw [SR.r17 (SR.s hR_m3 (Or.inr (by decide)))]
                refine jblk hF [(.aload_n 0, 1)] (by decide +kernel) (pc' := 83) (lo' := [(2, (0, m3 41 (m3 35 19))), (0, (2, 35)), (1, (0, nn))]) (st' := [(2, 35), (2, 43), (0, nn), (2, 44)]) rfl ?_
                refine jget hF 13 9 2 9 rfl (by decide) (by decide) rfl wd_1472 (by decide +kernel) (by exact hS.k35) ?_
                rw [SR.r9 (SR.s hR_m3 (Or.inr (by decide)))]
                refine jblk hF [(.aload_n 0, 1)] (by decide +kernel) (pc' := 87) (lo' := [(2, (0, m3 41 (m3 35 19))), (0, (2, 35)), (1, (0, nn))]) (st' := [(2, 35), (2, 41), (2, 43), (0, nn), (2, 44)]) rfl ?_
                refine jget hF 13 19 0 19 rfl (by decide) (by decide) rfl wd_1482 (by decide +kernel) (by exact hS.k35) ?_
                rw [show (set2 m3 35 19 ((m3 35 19) + 1)) 35 19 = (m3 35 19) + 1 from s2_s]
                refine jiald hF (by decide +kernel) (by exact hS.k41) (by omega) (by have := hS.l41; omega) ?_
                rw [show (set2 m3 35 19 ((m3 35 19) + 1)) 41 ((m3 35 19) + 1) = m3 41 ((m3 35 19) + 1) from (s2_a (by decide))]
                refine jiald hF (by decide +kernel) (by exact hS.k43) (by omega) (by have := hS.l43; omega) ?_
                rw [show (set2 m3 35 19 ((m3 35 19) + 1)) 43 (m3 41 ((m3 35 19) + 1)) = m3 43 (m3 41 ((m3 35 19) + 1)) from (s2_a (by decide))]
                refine jiast hF (by decide +kernel) (by decide) (by exact hS.k44) (by omega) (by have := hS.l44; omega) ?_
                refine jblk hF [(.aload_n 0, 1), (.dup, 1)] (by decide +kernel) (pc' := 95) (lo' := [(2, (0, m3 41 (m3 35 19))), (0, (2, 35)), (1, (0, nn))]) (st' := [(2, 35), (2, 35)]) rfl ?_
                refine jget hF 13 19 0 19 rfl (by decide) (by decide) rfl wd_1482 (by decide +kernel) (by exact hS.k35) ?_
                rw [show (set2 (set2 m3 35 19 ((m3 35 19) + 1)) 44 nn (m3 43 (m3 41 ((m3 35 19) + 1)))) 35 19 = (m3 35 19) + 1 from ((s2_a (by decide)).trans s2_s)]
                refine jblk hF [(.iconst 1, 1), (.iadd, 1)] (by decide +kernel) (pc' := 100) (lo' := [(2, (0, m3 41 (m3 35 19))), (0, (2, 35)), (1, (0, nn))]) (st' := [(0, ((m3 35 19) + 1) + 1), (2, 35)]) rfl ?_
                refine jput hF 13 19 0 19 rfl (by decide) (by decide) rfl wd_1482 (by decide +kernel) rfl (Or.inl rfl) (by exact hS.k35) (fun h => by cases h) ?_
                refine jblk hF [(.iinc 1 1, 3)] (by decide +kernel) (pc' := 106) (lo' := [(1, (0, nn + 1)), (2, (0, m3 41 (m3 35 19))), (0, (2, 35))]) (st' := []) rfl ?_
                have hp9 : PIL ((set2 (set2 (set2 m3 35 19 ((m3 35 19) + 1)) 44 nn (m3 43 (m3 41 ((m3 35 19) + 1)))) 35 19 (((m3 35 19) + 1) + 1)) 44) st2 := by rw [hst2]; exact hpil.push (by rw [← hnn.1]; simp [set2]) (fun j q => by rw [← hnn.1] at q; simp [set2, q])
                refine jgoto hF (off := 65) 171 (by decide +kernel) (by decide) ?_
                have hp8 : PIL ((set2 (set2 (set2 m3 35 19 ((m3 35 19) + 1)) 44 nn (m3 43 (m3 41 ((m3 35 19) + 1)))) 35 19 (((m3 35 19) + 1) + 1)) 44) st2 := by first | exact hp9 | (rw [hst2]; exact ⟨by rw [show (qs.length : Int) = nn + (-1) - 1 by omega, s2_s, hqa, hqc], hqp.2.2.congr (fun j q1 q2 => by rw [s2_k (by omega), s2_a (by decide)])⟩)
                have hf9 : WKF m3 (set2 (set2 (set2 m3 35 19 ((m3 35 19) + 1)) 44 nn (m3 43 (m3 41 ((m3 35 19) + 1)))) 35 19 (((m3 35 19) + 1) + 1)) := by intro a j q1 q2; simp only [set2]; (repeat' split) <;> first | rfl | (exfalso; omega)
                have e19 : (set2 (set2 (set2 m3 35 19 ((m3 35 19) + 1)) 44 nn (m3 43 (m3 41 ((m3 35 19) + 1)))) 35 19 (((m3 35 19) + 1) + 1)) 35 19 = m3 35 19 + (kq : Int) := by simp [set2]; omega
                refine jgoto hF (off := (-169)) 2 (by decide +kernel) (by decide) ?_
                refine jsub [2, 0] rfl ?_
                refine ih_1 (nn + 1) (set2 (set2 (set2 m3 35 19 ((m3 35 19) + 1)) 44 nn (m3 43 (m3 41 ((m3 35 19) + 1)))) 35 19 (((m3 35 19) + 1) + 1)) rest2 st2 ?_ ?_ ?_ ?_ ?_ ?_ ?_ ?_ ?_
                · exact (SR.s (SR.s (SR.s hR_m3 (Or.inr (by decide))) (Or.inl (by decide))) (Or.inr (by decide)))
                · exact fun a j q1 q2 => (hf9 a j q1 q2).trans (hfr a j q1 q2)
                · rw [e19]; exact hWS.2.2.1
                · exact hWS.2.2.2
                · exact hp8
                · exact hst3
                · exact fun x hx => hval3 x (hWS.2.1 x hx)
                · rw [e19]; omega
                · omega
              · obtain ⟨rest2, st2, hWS, hin, hst2⟩ := W_num hrun3 ht hsg3 (by rw [← e41]; omega)
                have hlr := hWS.1
                have hv9 := hval3 _ hin
                rw [← e41] at hv9 hst2
                obtain ⟨kq, hkq⟩ : ∃ kq : Nat, kq = 2 := ⟨2, rfl⟩
                rw [← hkq] at hWS
                have hst3 : ∀ x ∈ st2, InI x := by rw [hst2]; intro x hx; rcases List.mem_cons.mp hx with q | q; (rw [q]; exact ⟨by omega, by omega⟩); exact hst x q
                have hns : st2.length = st.length + 1 := by rw [hst2]; rfl
                refine jblk hF [(.aload_n 0, 1)] (by decide +kernel) (pc' := 67) (lo' := [(2, (0, m3 41 (m3 35 19))), (0, (2, 35)), (1, (0, nn))]) (st' := [(2, 35), (0, nn), (2, 44)]) rfl ?_
                refine jget hF 13 9 2 9 rfl (by decide) (by decide) rfl wd_1472 (by decide +kernel) (by exact hS.k35) ?_
                rw [SR.r9 (SR.s hR_m3 (Or.inr (by decide)))]
                refine jblk hF [(.aload_n 0, 1)] (by decide +kernel) (pc' := 71) (lo' := [(2, (0, m3 41 (m3 35 19))), (0, (2, 35)), (1, (0, nn))]) (st' := [(2, 35), (2, 41), (0, nn), (2, 44)]) rfl ?_
                refine jget hF 13 19 0 19 rfl (by decide) (by decide) rfl wd_1482 (by decide +kernel) (by exact hS.k35) ?_
                rw [show (set2 m3 35 19 ((m3 35 19) + 1)) 35 19 = (m3 35 19) + 1 from s2_s]
                refine jiald hF (by decide +kernel) (by exact hS.k41) (by omega) (by have := hS.l41; omega) ?_
                rw [show (set2 m3 35 19 ((m3 35 19) + 1)) 41 ((m3 35 19) + 1) = m3 41 ((m3 35 19) + 1) from (s2_a (by decide))]
                refine jgoto hF (off := 17) 92 (by decide +kernel) (by decide) ?_
                refine jiast hF (by decide +kernel) (by decide) (by exact hS.k44) (by omega) (by have := hS.l44; omega) ?_
                refine jblk hF [(.aload_n 0, 1), (.dup, 1)] (by decide +kernel) (pc' := 95) (lo' := [(2, (0, m3 41 (m3 35 19))), (0, (2, 35)), (1, (0, nn))]) (st' := [(2, 35), (2, 35)]) rfl ?_
                refine jget hF 13 19 0 19 rfl (by decide) (by decide) rfl wd_1482 (by decide +kernel) (by exact hS.k35) ?_
                rw [show (set2 (set2 m3 35 19 ((m3 35 19) + 1)) 44 nn (m3 41 ((m3 35 19) + 1))) 35 19 = (m3 35 19) + 1 from ((s2_a (by decide)).trans s2_s)]
                refine jblk hF [(.iconst 1, 1), (.iadd, 1)] (by decide +kernel) (pc' := 100) (lo' := [(2, (0, m3 41 (m3 35 19))), (0, (2, 35)), (1, (0, nn))]) (st' := [(0, ((m3 35 19) + 1) + 1), (2, 35)]) rfl ?_
                refine jput hF 13 19 0 19 rfl (by decide) (by decide) rfl wd_1482 (by decide +kernel) rfl (Or.inl rfl) (by exact hS.k35) (fun h => by cases h) ?_
                refine jblk hF [(.iinc 1 1, 3)] (by decide +kernel) (pc' := 106) (lo' := [(1, (0, nn + 1)), (2, (0, m3 41 (m3 35 19))), (0, (2, 35))]) (st' := []) rfl ?_
                have hp9 : PIL ((set2 (set2 (set2 m3 35 19 ((m3 35 19) + 1)) 44 nn (m3 41 ((m3 35 19) + 1))) 35 19 (((m3 35 19) + 1) + 1)) 44) st2 := by rw [hst2]; exact hpil.push (by rw [← hnn.1]; simp [set2]) (fun j q => by rw [← hnn.1] at q; simp [set2, q])
                refine jgoto hF (off := 65) 171 (by decide +kernel) (by decide) ?_
                have hp8 : PIL ((set2 (set2 (set2 m3 35 19 ((m3 35 19) + 1)) 44 nn (m3 41 ((m3 35 19) + 1))) 35 19 (((m3 35 19) + 1) + 1)) 44) st2 := by first | exact hp9 | (rw [hst2]; exact ⟨by rw [show (qs.length : Int) = nn + (-1) - 1 by omega, s2_s, hqa, hqc], hqp.2.2.congr (fun j q1 q2 => by rw [s2_k (by omega), s2_a (by decide)])⟩)
                have hf9 : WKF m3 (set2 (set2 (set2 m3 35 19 ((m3 35 19) + 1)) 44 nn (m3 41 ((m3 35 19) + 1))) 35 19 (((m3 35 19) + 1) + 1)) := by intro a j q1 q2; simp only [set2]; (repeat' split) <;> first | rfl | (exfalso; omega)
                have e19 : (set2 (set2 (set2 m3 35 19 ((m3 35 19) + 1)) 44 nn (m3 41 ((m3 35 19) + 1))) 35 19 (((m3 35 19) + 1) + 1)) 35 19 = m3 35 19 + (kq : Int) := by simp [set2]; omega
                refine jgoto hF (off := (-169)) 2 (by decide +kernel) (by decide) ?_
                refine jsub [2, 0] rfl ?_
                refine ih_1 (nn + 1) (set2 (set2 (set2 m3 35 19 ((m3 35 19) + 1)) 44 nn (m3 41 ((m3 35 19) + 1))) 35 19 (((m3 35 19) + 1) + 1)) rest2 st2 ?_ ?_ ?_ ?_ ?_ ?_ ?_ ?_ ?_
                · exact (SR.s (SR.s (SR.s hR_m3 (Or.inr (by decide))) (Or.inl (by decide))) (Or.inr (by decide)))
                · exact fun a j q1 q2 => (hf9 a j q1 q2).trans (hfr a j q1 q2)
                · rw [e19]; exact hWS.2.2.1
                · exact hWS.2.2.2
                · exact hp8
                · exact hst3
                · exact fun x hx => hval3 x (hWS.2.1 x hx)
                · rw [e19]; omega
                · omega
  refine jsub [1, 0] rfl ?_
  refine L_2 _ 0 mem c ([] : List Int) ?_ ?_ ?_ ?_ ?_ ?_ ?_ ?_ (Nat.lt_succ_self _)
  · exact hR
  · intro a j _ _; rfl
  · exact hsg
  · exact hrun
  · trivial
  · intro x hx; cases hx
  · exact hval
  · simp
set_option maxHeartbeats 4000000 in
set_option maxRecDepth 100000 in
theorem c_X12_worthOf {l : Launch} {g : GP} (hG : GH g) {kd : Int → Nat} {ln : Int → Int} {mem : Int → Int → Int} {sz : Nat} (hS : SK kd ln) (hR : SR mem) (t lab n b x : Int) (h_lab : InI lab) (h_n : InI n) (h_b : InI b) (h_x : InI x) (T : Int → Int) (L : Int) (hL : 0 ≤ L ∧ L ≤ 160) (hfa : (fauP T L).1 = -1) (htt : 0 ≤ t ∧ t ≤ 11) (hsg : SG (mem 41) (620 * t) (fauP T L).2.2) (h42 : mem 42 t = (fauP T L).2.2.length ∧ mem 42 t ≤ 340) : MT l g yX12_worthOf cX12_worthOf 9 (some .int) 4 0 0 [(2, 35), (0, t), (0, lab), (0, n), (0, b), (0, x)] kd ln mem sz (pMR 0 (fun v mem' => SR mem' ∧ (v = (worV T L (envF n b x) lab) ∧ WOF mem mem')) kd ln sz) := by
  refine MT_of hG (by decide +kernel) (Nat.le_of_ble_eq_true rfl) (fun z hF hr hn => ?_)
  have hEI := envF_in h_n h_b h_x
  have hln : ∀ c : List Int, (c.length : Int) = c.length := fun _ => rfl
  refine jblk hF [(.aload_n 0, 1)] (by decide +kernel) (pc' := 1) (lo' := [(0, (2, 35)), (1, (0, t)), (2, (0, lab)), (3, (0, n)), (4, (0, b)), (5, (0, x))]) (st' := [(2, 35)]) rfl ?_
  refine jget hF 13 17 2 17 rfl (by decide) (by decide) rfl wd_1480 (by decide +kernel) (by exact hS.k35) ?_
  rw [SR.r17 hR]
  refine jblk hF [(.bipush 110, 2), (.iload_n 3, 1)] (by decide +kernel) (pc' := 7) (lo' := [(0, (2, 35)), (1, (0, t)), (2, (0, lab)), (3, (0, n)), (4, (0, b)), (5, (0, x))]) (st' := [(0, n), (0, 110), (2, 43)]) rfl ?_
  refine jiast hF (by decide +kernel) (by decide) (by exact hS.k43) (by omega) (by have := hS.l43; omega) ?_
  refine jblk hF [(.aload_n 0, 1)] (by decide +kernel) (pc' := 9) (lo' := [(0, (2, 35)), (1, (0, t)), (2, (0, lab)), (3, (0, n)), (4, (0, b)), (5, (0, x))]) (st' := [(2, 35)]) rfl ?_
  refine jget hF 13 17 2 17 rfl (by decide) (by decide) rfl wd_1480 (by decide +kernel) (by exact hS.k35) ?_
  rw [SR.r17 (SR.s hR (Or.inl (by decide)))]
  refine jblk hF [(.bipush 98, 2), (.iload 4, 2)] (by decide +kernel) (pc' := 16) (lo' := [(0, (2, 35)), (1, (0, t)), (2, (0, lab)), (3, (0, n)), (4, (0, b)), (5, (0, x))]) (st' := [(0, b), (0, 98), (2, 43)]) rfl ?_
  refine jiast hF (by decide +kernel) (by decide) (by exact hS.k43) (by omega) (by have := hS.l43; omega) ?_
  refine jblk hF [(.aload_n 0, 1)] (by decide +kernel) (pc' := 18) (lo' := [(0, (2, 35)), (1, (0, t)), (2, (0, lab)), (3, (0, n)), (4, (0, b)), (5, (0, x))]) (st' := [(2, 35)]) rfl ?_
  refine jget hF 13 17 2 17 rfl (by decide) (by decide) rfl wd_1480 (by decide +kernel) (by exact hS.k35) ?_
  rw [SR.r17 (SR.s (SR.s hR (Or.inl (by decide))) (Or.inl (by decide)))]
  refine jblk hF [(.bipush 120, 2), (.iload 5, 2)] (by decide +kernel) (pc' := 25) (lo' := [(0, (2, 35)), (1, (0, t)), (2, (0, lab)), (3, (0, n)), (4, (0, b)), (5, (0, x))]) (st' := [(0, x), (0, 120), (2, 43)]) rfl ?_
  refine jiast hF (by decide +kernel) (by decide) (by exact hS.k43) (by omega) (by have := hS.l43; omega) ?_
  refine jblk hF [(.aload_n 0, 1), (.sipush 620, 3), (.iload_n 1, 1), (.imul, 1)] (by decide +kernel) (pc' := 32) (lo' := [(0, (2, 35)), (1, (0, t)), (2, (0, lab)), (3, (0, n)), (4, (0, b)), (5, (0, x))]) (st' := [(0, 620 * t), (2, 35)]) rfl ?_
  refine jput hF 13 19 0 19 rfl (by decide) (by decide) rfl wd_1482 (by decide +kernel) rfl (Or.inl rfl) (by exact hS.k35) (fun h => by cases h) ?_
  have L_2 : ∀ (fu_3 : Nat)  (m3 : Int → Int → Int) (rem : List Int) (a : Int) (k : Nat), (SR m3) → (WOF mem m3) → (m3 43 98 = b ∧ m3 43 110 = n ∧ m3 43 120 = x) → (SG (mem 41) (m3 35 19) rem) → (m3 35 19 + rem.length = 620 * t + (fauP T L).2.2.length ∧ 620 * t ≤ m3 35 19) → (WOJ T L (envF n b x) lab (worV T L (envF n b x) lab) rem a k) →  rem.length < fu_3 → J z g 9 0 0 (QM z g 0 0 (pMR 0 (fun v mem' => SR mem' ∧ (v = (worV T L (envF n b x) lab) ∧ WOF mem mem')) kd ln sz)) 35 [(0, (2, 35)), (1, (0, t)), (2, (0, lab)), (3, (0, n)), (4, (0, b)), (5, (0, x))] [] kd ln m3 sz := by
    intro fu_3
    induction fu_3 with
    | zero => intro m3 rem a k _ _ _ _ _ _ hm; omega
    | succ fu_3 ih_1 =>
      intro m3 rem a k hR_m3 hfr h43 hsg3 hrl hwo hm
      have e41 : ∀ j : Int, m3 41 j = mem 41 j := fun j => hfr 41 j (by decide) (by decide) (by omega)
      have e42 : m3 42 t = mem 42 t := hfr 42 t (by decide) (by decide) (by omega)
      refine jblk hF [(.aload_n 0, 1)] (by decide +kernel) (pc' := 36) (lo' := [(0, (2, 35)), (1, (0, t)), (2, (0, lab)), (3, (0, n)), (4, (0, b)), (5, (0, x))]) (st' := [(2, 35)]) rfl ?_
      refine jget hF 13 19 0 19 rfl (by decide) (by decide) rfl wd_1482 (by decide +kernel) (by exact hS.k35) ?_
      refine jblk hF [(.sipush 620, 3), (.iload_n 1, 1), (.imul, 1), (.aload_n 0, 1)] (by decide +kernel) (pc' := 45) (lo' := [(0, (2, 35)), (1, (0, t)), (2, (0, lab)), (3, (0, n)), (4, (0, b)), (5, (0, x))]) (st' := [(2, 35), (0, 620 * t), (0, m3 35 19)]) rfl ?_
      refine jget hF 13 10 2 10 rfl (by decide) (by decide) rfl wd_1473 (by decide +kernel) (by exact hS.k35) ?_
      rw [SR.r10 hR_m3]
      refine jblk hF [(.iload_n 1, 1)] (by decide +kernel) (pc' := 49) (lo' := [(0, (2, 35)), (1, (0, t)), (2, (0, lab)), (3, (0, n)), (4, (0, b)), (5, (0, x))]) (st' := [(0, t), (2, 42), (0, 620 * t), (0, m3 35 19)]) rfl ?_
      refine jiald hF (by decide +kernel) (by exact hS.k42) (by omega) (by have := hS.l42; omega) ?_
      refine jblk hF [(.iadd, 1)] (by decide +kernel) (pc' := 51) (lo' := [(0, (2, 35)), (1, (0, t)), (2, (0, lab)), (3, (0, n)), (4, (0, b)), (5, (0, x))]) (st' := [(0, (620 * t) + (m3 42 t)), (0, m3 35 19)]) rfl ?_
      refine jicmp_ge hF (off := 69) 120 (by decide +kernel) (by decide) (by omega) (by omega) (fun h_4 => ?_) (fun h_4 => ?_)
      · refine jblk hF [(.iconst 0, 1)] (by decide +kernel) (pc' := 121) (lo' := [(0, (2, 35)), (1, (0, t)), (2, (0, lab)), (3, (0, n)), (4, (0, b)), (5, (0, x))]) (st' := [(0, 0)]) rfl ?_
        refine jiret hF hr (by decide +kernel) ?_
        exact lMR ⟨hR_m3, by (have hr0 : rem = [] := List.eq_nil_of_length_eq_zero (by omega); rcases hwo with ⟨-, q⟩ | ⟨q1, q2, q3, q4, q5, q6⟩; exact ⟨q.symm, hfr⟩; exfalso; obtain ⟨k, rfl⟩ : ∃ j, k = j + 1 := ⟨k - 1, by omega⟩; obtain ⟨-, -, d⟩ := clsL_split q1 q2 q4; rw [q5, hr0] at d; rcases d with ⟨-, -, -, d⟩ | ⟨-, d⟩; (unfold enC at d; simp at d); (unfold enC at d; simp at d))⟩
      · have hne : rem ≠ [] := fun q => by rw [q] at hrl; simp at hrl; omega
        obtain ⟨l1, CC, SS, rem2, a2, k2, v1, v2, hrm, hl1, hcv, hsv, hr1, hr2, hi1, hi2, hy1, hy2⟩ := hwo.step hne hEI
        have hlq : rem.length = CC.length + SS.length + rem2.length + 3 := by rw [hrm]; simp; omega
        rw [hrm] at hsg3
        have hhd : m3 41 (m3 35 19) = l1 := (e41 _).trans hsg3.1
        obtain ⟨hs1, hs2⟩ := SG.fst (c := CC) hsg3.2
        obtain ⟨hs3, hs4⟩ := SG.fst (c := SS) hs2.2
        have hsC : SG (mem 41) (m3 35 19 + 1) (CC ++ [2]) := SG.app hs1 ⟨hs2.1, trivial⟩
        have hsS : SG (mem 41) (m3 35 19 + 1 + CC.length + 1) (SS ++ [3]) := SG.app hs3 ⟨hs4.1, trivial⟩
        refine jblk hF [(.aload_n 0, 1)] (by decide +kernel) (pc' := 55) (lo' := [(0, (2, 35)), (1, (0, t)), (2, (0, lab)), (3, (0, n)), (4, (0, b)), (5, (0, x))]) (st' := [(2, 35)]) rfl ?_
        refine jget hF 13 9 2 9 rfl (by decide) (by decide) rfl wd_1472 (by decide +kernel) (by exact hS.k35) ?_
        rw [SR.r9 hR_m3]
        refine jblk hF [(.aload_n 0, 1)] (by decide +kernel) (pc' := 59) (lo' := [(0, (2, 35)), (1, (0, t)), (2, (0, lab)), (3, (0, n)), (4, (0, b)), (5, (0, x))]) (st' := [(2, 35), (2, 41)]) rfl ?_
        refine jget hF 13 19 0 19 rfl (by decide) (by decide) rfl wd_1482 (by decide +kernel) (by exact hS.k35) ?_
        refine jiald hF (by decide +kernel) (by exact hS.k41) (by omega) (by have := hS.l41; omega) ?_
        refine jblk hF [(.iload_n 2, 1)] (by decide +kernel) (pc' := 64) (lo' := [(0, (2, 35)), (1, (0, t)), (2, (0, lab)), (3, (0, n)), (4, (0, b)), (5, (0, x))]) (st' := [(0, lab), (0, m3 41 (m3 35 19))]) rfl ?_
        refine jicmp_ne hF (off := 7) 71 (by decide +kernel) (by decide) (by omega) (by omega) (fun h_5 => ?_) (fun h_5 => ?_)
        · refine jblk hF [(.iconst 0, 1), (.istore 6, 2), (.aload_n 0, 1), (.dup, 1)] (by decide +kernel) (pc' := 76) (lo' := [(6, (0, 0)), (0, (2, 35)), (1, (0, t)), (2, (0, lab)), (3, (0, n)), (4, (0, b)), (5, (0, x))]) (st' := [(2, 35), (2, 35)]) rfl ?_
          refine jget hF 13 19 0 19 rfl (by decide) (by decide) rfl wd_1482 (by decide +kernel) (by exact hS.k35) ?_
          refine jblk hF [(.iconst 1, 1), (.iadd, 1)] (by decide +kernel) (pc' := 81) (lo' := [(6, (0, 0)), (0, (2, 35)), (1, (0, t)), (2, (0, lab)), (3, (0, n)), (4, (0, b)), (5, (0, x))]) (st' := [(0, (m3 35 19) + 1), (2, 35)]) rfl ?_
          refine jput hF 13 19 0 19 rfl (by decide) (by decide) rfl wd_1482 (by decide +kernel) rfl (Or.inl rfl) (by exact hS.k35) (fun h => by cases h) ?_
          have g19 : (set2 m3 35 19 ((m3 35 19) + 1)) 35 19 = m3 35 19 + 1 := by simp [set2]
          have hrunq : runC ((set2 m3 35 19 ((m3 35 19) + 1)) 43) CC (some []) = some [v1] := by rw [← hr1]; exact run_congr ⟨by simp [set2, envF, h43.1], by simp [set2, envF, h43.2.1], by simp [set2, envF, h43.2.2]⟩ _ CC _ (Nat.le_refl _)
          have hsgq : SG ((set2 m3 35 19 ((m3 35 19) + 1)) 41) ((set2 m3 35 19 ((m3 35 19) + 1)) 35 19) (CC ++ [2]) := by rw [g19, show (set2 m3 35 19 ((m3 35 19) + 1)) 41 = mem 41 from funext e41]; exact hsC
          have hltq : InI ((set2 m3 35 19 ((m3 35 19) + 1)) 43 98) ∧ InI ((set2 m3 35 19 ((m3 35 19) + 1)) 43 110) ∧ InI ((set2 m3 35 19 ((m3 35 19) + 1)) 43 120) := by simp only [set2]; refine ⟨?_, ?_, ?_⟩ <;> (simp; first | (rw [h43.1]; exact h_b) | (rw [h43.2.1]; exact h_n) | (rw [h43.2.2]; exact h_x))
          have hM41 : ∀ j : Int, (set2 m3 35 19 ((m3 35 19) + 1)) 41 j = mem 41 j := fun j => e41 j
          have hM43 : (set2 m3 35 19 ((m3 35 19) + 1)) 43 98 = b ∧ (set2 m3 35 19 ((m3 35 19) + 1)) 43 110 = n ∧ (set2 m3 35 19 ((m3 35 19) + 1)) 43 120 = x := ⟨h43.1, h43.2.1, h43.2.2⟩
          refine jblk hF [(.aload_n 0, 1)] (by decide +kernel) (pc' := 85) (lo' := [(6, (0, 0)), (0, (2, 35)), (1, (0, t)), (2, (0, lab)), (3, (0, n)), (4, (0, b)), (5, (0, x))]) (st' := [(2, 35)]) rfl ?_
          refine jcallV hF (c_X12_work hG hS (SR.s hR_m3 (Or.inr (by decide))) (by exact CC) (by exact 2) (by exact v1) (by exact hrunq) (by first | exact Or.inl rfl | exact Or.inr rfl) (by exact hsgq) (by assumption) (by omega) (by omega) (by exact hltq)) MW_X12_work 13 (by decide) (by exact hS.k35) wd_1903 wd_1905 wd_p69 (by decide +kernel) [] rfl rfl (by decide) (Nat.le_of_ble_eq_true rfl) (by decide) (kMR (fun v_8 m_6 h_7 => ?_))
          obtain ⟨hR_m_6, h_7⟩ := h_7
          obtain ⟨hwv, hw19, hwf⟩ := h_7
          have hvi : InI v_8 := by rw [hwv]; exact hi1
          have hm43 : m_6 43 98 = b ∧ m_6 43 110 = n ∧ m_6 43 120 = x := ⟨(hwf 43 98 (by decide) (by omega)).trans hM43.1, (hwf 43 110 (by decide) (by omega)).trans hM43.2.1, (hwf 43 120 (by decide) (by omega)).trans hM43.2.2⟩
          have hm41 : ∀ j : Int, m_6 41 j = mem 41 j := fun j => (hwf 41 j (by decide) (by omega)).trans (hM41 j)
          have hf5 : WOF mem m_6 := fun a j q1 q2 q3 => (hwf a j q2 q3).trans (by rw [show (set2 m3 35 19 (m3 35 19 + 1)) a j = m3 a j from if_neg q3]; exact hfr a j q1 q2 q3)
          have hr19 : m_6 35 19 = m3 35 19 + 1 + CC.length + 1 := by rw [hw19, g19]
          refine jif_eq hF (off := 7) 95 (by decide +kernel) (by decide) (by omega) (fun h_9 => ?_) (fun h_9 => ?_)
          · refine jblk hF [(.iconst 0, 1), (.istore 7, 2)] (by decide +kernel) (pc' := 98) (lo' := [(7, (0, 0)), (6, (0, 0)), (0, (2, 35)), (1, (0, t)), (2, (0, lab)), (3, (0, n)), (4, (0, b)), (5, (0, x))]) (st' := []) rfl ?_
            have hrunq : runC (m_6 43) SS (some []) = some [v2] := by rw [← hr2]; exact run_congr ⟨by simp [envF, hm43.1], by simp [envF, hm43.2.1], by simp [envF, hm43.2.2]⟩ _ SS _ (Nat.le_refl _)
            have hsgq : SG (m_6 41) (m_6 35 19) (SS ++ [3]) := by rw [hr19, show m_6 41 = mem 41 from funext hm41]; exact hsS
            have hltq : InI (m_6 43 98) ∧ InI (m_6 43 110) ∧ InI (m_6 43 120) := by rw [hm43.1, hm43.2.1, hm43.2.2]; exact ⟨h_b, h_n, h_x⟩
            refine jblk hF [(.aload_n 0, 1)] (by decide +kernel) (pc' := 99) (lo' := [(7, (0, 0)), (6, (0, 0)), (0, (2, 35)), (1, (0, t)), (2, (0, lab)), (3, (0, n)), (4, (0, b)), (5, (0, x))]) (st' := [(2, 35)]) rfl ?_
            refine jcallV hF (c_X12_work hG hS hR_m_6 (by exact SS) (by exact 3) (by exact v2) (by exact hrunq) (by first | exact Or.inl rfl | exact Or.inr rfl) (by exact hsgq) (by assumption) (by omega) (by omega) (by exact hltq)) MW_X12_work 13 (by decide) (by exact hS.k35) wd_1903 wd_1905 wd_p69 (by decide +kernel) [] rfl rfl (by decide) (Nat.le_of_ble_eq_true rfl) (by decide) (kMR (fun v_12 m_10 h_11 => ?_))
            obtain ⟨hR_m_10, h_11⟩ := h_11
            obtain ⟨hwv2, hw192, hwf2⟩ := h_11
            have hm43b : m_10 43 98 = b ∧ m_10 43 110 = n ∧ m_10 43 120 = x := ⟨(hwf2 43 98 (by decide) (by omega)).trans hm43.1, (hwf2 43 110 (by decide) (by omega)).trans hm43.2.1, (hwf2 43 120 (by decide) (by omega)).trans hm43.2.2⟩
            have hf6 : WOF mem m_10 := fun a j q1 q2 q3 => (hwf2 a j q2 q3).trans (hf5 a j q1 q2 q3)
            have hr192 : m_10 35 19 = m3 35 19 + 1 + CC.length + 1 + SS.length + 1 := by rw [hw192, hr19]
            refine jblk hF [(.istore 8, 2), (.iload 6, 2)] (by decide +kernel) (pc' := 106) (lo' := [(8, (0, v_12)), (7, (0, 0)), (6, (0, 0)), (0, (2, 35)), (1, (0, t)), (2, (0, lab)), (3, (0, n)), (4, (0, b)), (5, (0, x))]) (st' := [(0, 0)]) rfl ?_
            refine jif_eq hF (off := 11) 117 (by decide +kernel) (by decide) (by decide) (fun _ => ?_) (fun h => absurd h (by decide))
            refine jgoto hF (off := (-82)) 35 (by decide +kernel) (by decide) ?_
            refine jsub [3, 4, 5, 6, 7, 8] rfl ?_
            refine ih_1 m_10 rem2 a2 k2 ?_ ?_ ?_ ?_ ?_ ?_ ?_
            · exact hR_m_10
            · exact hf6
            · exact hm43b
            · (rw [hr192]; have h9 := hs4.2; rw [show m3 35 19 + 1 + (CC.length : Int) + 1 + (SS.length : Int) + 1 = _ from rfl]; exact h9)
            · omega
            · exact hy2 (by omega)
            · omega
          · refine jblk hF [(.iconst 1, 1)] (by decide +kernel) (pc' := 92) (lo' := [(6, (0, 0)), (0, (2, 35)), (1, (0, t)), (2, (0, lab)), (3, (0, n)), (4, (0, b)), (5, (0, x))]) (st' := [(0, 1)]) rfl ?_
            refine jgoto hF (off := 4) 96 (by decide +kernel) (by decide) ?_
            refine jblk hF [(.istore 7, 2)] (by decide +kernel) (pc' := 98) (lo' := [(7, (0, 1)), (6, (0, 0)), (0, (2, 35)), (1, (0, t)), (2, (0, lab)), (3, (0, n)), (4, (0, b)), (5, (0, x))]) (st' := []) rfl ?_
            have hrunq : runC (m_6 43) SS (some []) = some [v2] := by rw [← hr2]; exact run_congr ⟨by simp [envF, hm43.1], by simp [envF, hm43.2.1], by simp [envF, hm43.2.2]⟩ _ SS _ (Nat.le_refl _)
            have hsgq : SG (m_6 41) (m_6 35 19) (SS ++ [3]) := by rw [hr19, show m_6 41 = mem 41 from funext hm41]; exact hsS
            have hltq : InI (m_6 43 98) ∧ InI (m_6 43 110) ∧ InI (m_6 43 120) := by rw [hm43.1, hm43.2.1, hm43.2.2]; exact ⟨h_b, h_n, h_x⟩
            refine jblk hF [(.aload_n 0, 1)] (by decide +kernel) (pc' := 99) (lo' := [(7, (0, 1)), (6, (0, 0)), (0, (2, 35)), (1, (0, t)), (2, (0, lab)), (3, (0, n)), (4, (0, b)), (5, (0, x))]) (st' := [(2, 35)]) rfl ?_
            refine jcallV hF (c_X12_work hG hS hR_m_6 (by exact SS) (by exact 3) (by exact v2) (by exact hrunq) (by first | exact Or.inl rfl | exact Or.inr rfl) (by exact hsgq) (by assumption) (by omega) (by omega) (by exact hltq)) MW_X12_work 13 (by decide) (by exact hS.k35) wd_1903 wd_1905 wd_p69 (by decide +kernel) [] rfl rfl (by decide) (Nat.le_of_ble_eq_true rfl) (by decide) (kMR (fun v_16 m_14 h_15 => ?_))
            obtain ⟨hR_m_14, h_15⟩ := h_15
            obtain ⟨hwv2, hw192, hwf2⟩ := h_15
            have hm43b : m_14 43 98 = b ∧ m_14 43 110 = n ∧ m_14 43 120 = x := ⟨(hwf2 43 98 (by decide) (by omega)).trans hm43.1, (hwf2 43 110 (by decide) (by omega)).trans hm43.2.1, (hwf2 43 120 (by decide) (by omega)).trans hm43.2.2⟩
            have hf6 : WOF mem m_14 := fun a j q1 q2 q3 => (hwf2 a j q2 q3).trans (hf5 a j q1 q2 q3)
            have hr192 : m_14 35 19 = m3 35 19 + 1 + CC.length + 1 + SS.length + 1 := by rw [hw192, hr19]
            refine jblk hF [(.istore 8, 2), (.iload 6, 2)] (by decide +kernel) (pc' := 106) (lo' := [(8, (0, v_16)), (7, (0, 1)), (6, (0, 0)), (0, (2, 35)), (1, (0, t)), (2, (0, lab)), (3, (0, n)), (4, (0, b)), (5, (0, x))]) (st' := [(0, 0)]) rfl ?_
            refine jif_eq hF (off := 11) 117 (by decide +kernel) (by decide) (by decide) (fun _ => ?_) (fun h => absurd h (by decide))
            refine jgoto hF (off := (-82)) 35 (by decide +kernel) (by decide) ?_
            refine jsub [3, 4, 5, 6, 7, 8] rfl ?_
            refine ih_1 m_14 rem2 a2 k2 ?_ ?_ ?_ ?_ ?_ ?_ ?_
            · exact hR_m_14
            · exact hf6
            · exact hm43b
            · (rw [hr192]; have h9 := hs4.2; rw [show m3 35 19 + 1 + (CC.length : Int) + 1 + (SS.length : Int) + 1 = _ from rfl]; exact h9)
            · omega
            · exact hy2 (by omega)
            · omega
        · refine jblk hF [(.iconst 1, 1)] (by decide +kernel) (pc' := 68) (lo' := [(0, (2, 35)), (1, (0, t)), (2, (0, lab)), (3, (0, n)), (4, (0, b)), (5, (0, x))]) (st' := [(0, 1)]) rfl ?_
          refine jgoto hF (off := 4) 72 (by decide +kernel) (by decide) ?_
          refine jblk hF [(.istore 6, 2), (.aload_n 0, 1), (.dup, 1)] (by decide +kernel) (pc' := 76) (lo' := [(6, (0, 1)), (0, (2, 35)), (1, (0, t)), (2, (0, lab)), (3, (0, n)), (4, (0, b)), (5, (0, x))]) (st' := [(2, 35), (2, 35)]) rfl ?_
          refine jget hF 13 19 0 19 rfl (by decide) (by decide) rfl wd_1482 (by decide +kernel) (by exact hS.k35) ?_
          refine jblk hF [(.iconst 1, 1), (.iadd, 1)] (by decide +kernel) (pc' := 81) (lo' := [(6, (0, 1)), (0, (2, 35)), (1, (0, t)), (2, (0, lab)), (3, (0, n)), (4, (0, b)), (5, (0, x))]) (st' := [(0, (m3 35 19) + 1), (2, 35)]) rfl ?_
          refine jput hF 13 19 0 19 rfl (by decide) (by decide) rfl wd_1482 (by decide +kernel) rfl (Or.inl rfl) (by exact hS.k35) (fun h => by cases h) ?_
          have g19 : (set2 m3 35 19 ((m3 35 19) + 1)) 35 19 = m3 35 19 + 1 := by simp [set2]
          have hrunq : runC ((set2 m3 35 19 ((m3 35 19) + 1)) 43) CC (some []) = some [v1] := by rw [← hr1]; exact run_congr ⟨by simp [set2, envF, h43.1], by simp [set2, envF, h43.2.1], by simp [set2, envF, h43.2.2]⟩ _ CC _ (Nat.le_refl _)
          have hsgq : SG ((set2 m3 35 19 ((m3 35 19) + 1)) 41) ((set2 m3 35 19 ((m3 35 19) + 1)) 35 19) (CC ++ [2]) := by rw [g19, show (set2 m3 35 19 ((m3 35 19) + 1)) 41 = mem 41 from funext e41]; exact hsC
          have hltq : InI ((set2 m3 35 19 ((m3 35 19) + 1)) 43 98) ∧ InI ((set2 m3 35 19 ((m3 35 19) + 1)) 43 110) ∧ InI ((set2 m3 35 19 ((m3 35 19) + 1)) 43 120) := by simp only [set2]; refine ⟨?_, ?_, ?_⟩ <;> (simp; first | (rw [h43.1]; exact h_b) | (rw [h43.2.1]; exact h_n) | (rw [h43.2.2]; exact h_x))
          have hM41 : ∀ j : Int, (set2 m3 35 19 ((m3 35 19) + 1)) 41 j = mem 41 j := fun j => e41 j
          have hM43 : (set2 m3 35 19 ((m3 35 19) + 1)) 43 98 = b ∧ (set2 m3 35 19 ((m3 35 19) + 1)) 43 110 = n ∧ (set2 m3 35 19 ((m3 35 19) + 1)) 43 120 = x := ⟨h43.1, h43.2.1, h43.2.2⟩
          refine jblk hF [(.aload_n 0, 1)] (by decide +kernel) (pc' := 85) (lo' := [(6, (0, 1)), (0, (2, 35)), (1, (0, t)), (2, (0, lab)), (3, (0, n)), (4, (0, b)), (5, (0, x))]) (st' := [(2, 35)]) rfl ?_
          refine jcallV hF (c_X12_work hG hS (SR.s hR_m3 (Or.inr (by decide))) (by exact CC) (by exact 2) (by exact v1) (by exact hrunq) (by first | exact Or.inl rfl | exact Or.inr rfl) (by exact hsgq) (by assumption) (by omega) (by omega) (by exact hltq)) MW_X12_work 13 (by decide) (by exact hS.k35) wd_1903 wd_1905 wd_p69 (by decide +kernel) [] rfl rfl (by decide) (Nat.le_of_ble_eq_true rfl) (by decide) (kMR (fun v_20 m_18 h_19 => ?_))
          obtain ⟨hR_m_18, h_19⟩ := h_19
          obtain ⟨hwv, hw19, hwf⟩ := h_19
          have hvi : InI v_20 := by rw [hwv]; exact hi1
          have hm43 : m_18 43 98 = b ∧ m_18 43 110 = n ∧ m_18 43 120 = x := ⟨(hwf 43 98 (by decide) (by omega)).trans hM43.1, (hwf 43 110 (by decide) (by omega)).trans hM43.2.1, (hwf 43 120 (by decide) (by omega)).trans hM43.2.2⟩
          have hm41 : ∀ j : Int, m_18 41 j = mem 41 j := fun j => (hwf 41 j (by decide) (by omega)).trans (hM41 j)
          have hf5 : WOF mem m_18 := fun a j q1 q2 q3 => (hwf a j q2 q3).trans (by rw [show (set2 m3 35 19 (m3 35 19 + 1)) a j = m3 a j from if_neg q3]; exact hfr a j q1 q2 q3)
          have hr19 : m_18 35 19 = m3 35 19 + 1 + CC.length + 1 := by rw [hw19, g19]
          refine jif_eq hF (off := 7) 95 (by decide +kernel) (by decide) (by omega) (fun h_21 => ?_) (fun h_21 => ?_)
          · refine jblk hF [(.iconst 0, 1), (.istore 7, 2)] (by decide +kernel) (pc' := 98) (lo' := [(7, (0, 0)), (6, (0, 1)), (0, (2, 35)), (1, (0, t)), (2, (0, lab)), (3, (0, n)), (4, (0, b)), (5, (0, x))]) (st' := []) rfl ?_
            have hrunq : runC (m_18 43) SS (some []) = some [v2] := by rw [← hr2]; exact run_congr ⟨by simp [envF, hm43.1], by simp [envF, hm43.2.1], by simp [envF, hm43.2.2]⟩ _ SS _ (Nat.le_refl _)
            have hsgq : SG (m_18 41) (m_18 35 19) (SS ++ [3]) := by rw [hr19, show m_18 41 = mem 41 from funext hm41]; exact hsS
            have hltq : InI (m_18 43 98) ∧ InI (m_18 43 110) ∧ InI (m_18 43 120) := by rw [hm43.1, hm43.2.1, hm43.2.2]; exact ⟨h_b, h_n, h_x⟩
            refine jblk hF [(.aload_n 0, 1)] (by decide +kernel) (pc' := 99) (lo' := [(7, (0, 0)), (6, (0, 1)), (0, (2, 35)), (1, (0, t)), (2, (0, lab)), (3, (0, n)), (4, (0, b)), (5, (0, x))]) (st' := [(2, 35)]) rfl ?_
            refine jcallV hF (c_X12_work hG hS hR_m_18 (by exact SS) (by exact 3) (by exact v2) (by exact hrunq) (by first | exact Or.inl rfl | exact Or.inr rfl) (by exact hsgq) (by assumption) (by omega) (by omega) (by exact hltq)) MW_X12_work 13 (by decide) (by exact hS.k35) wd_1903 wd_1905 wd_p69 (by decide +kernel) [] rfl rfl (by decide) (Nat.le_of_ble_eq_true rfl) (by decide) (kMR (fun v_24 m_22 h_23 => ?_))
            obtain ⟨hR_m_22, h_23⟩ := h_23
            obtain ⟨hwv2, hw192, hwf2⟩ := h_23
            have hm43b : m_22 43 98 = b ∧ m_22 43 110 = n ∧ m_22 43 120 = x := ⟨(hwf2 43 98 (by decide) (by omega)).trans hm43.1, (hwf2 43 110 (by decide) (by omega)).trans hm43.2.1, (hwf2 43 120 (by decide) (by omega)).trans hm43.2.2⟩
            have hf6 : WOF mem m_22 := fun a j q1 q2 q3 => (hwf2 a j q2 q3).trans (hf5 a j q1 q2 q3)
            have hr192 : m_22 35 19 = m3 35 19 + 1 + CC.length + 1 + SS.length + 1 := by rw [hw192, hr19]
            refine jblk hF [(.istore 8, 2), (.iload 6, 2)] (by decide +kernel) (pc' := 106) (lo' := [(8, (0, v_24)), (7, (0, 0)), (6, (0, 1)), (0, (2, 35)), (1, (0, t)), (2, (0, lab)), (3, (0, n)), (4, (0, b)), (5, (0, x))]) (st' := [(0, 1)]) rfl ?_
            refine jif_eq hF (off := 11) 117 (by decide +kernel) (by decide) (by decide) (fun h => absurd h (by decide)) (fun _ => ?_)
            refine jblk hF [(.iload 7, 2)] (by decide +kernel) (pc' := 111) (lo' := [(8, (0, v_24)), (7, (0, 0)), (6, (0, 1)), (0, (2, 35)), (1, (0, t)), (2, (0, lab)), (3, (0, n)), (4, (0, b)), (5, (0, x))]) (st' := [(0, 0)]) rfl ?_
            refine jif_eq hF (off := 6) 117 (by decide +kernel) (by decide) (by decide) (fun _ => ?_) (fun h => absurd h (by decide))
            refine jgoto hF (off := (-82)) 35 (by decide +kernel) (by decide) ?_
            refine jsub [3, 4, 5, 6, 7, 8] rfl ?_
            refine ih_1 m_22 rem2 a2 k2 ?_ ?_ ?_ ?_ ?_ ?_ ?_
            · exact hR_m_22
            · exact hf6
            · exact hm43b
            · (rw [hr192]; have h9 := hs4.2; rw [show m3 35 19 + 1 + (CC.length : Int) + 1 + (SS.length : Int) + 1 = _ from rfl]; exact h9)
            · omega
            · exact hy2 (by omega)
            · omega
          · refine jblk hF [(.iconst 1, 1)] (by decide +kernel) (pc' := 92) (lo' := [(6, (0, 1)), (0, (2, 35)), (1, (0, t)), (2, (0, lab)), (3, (0, n)), (4, (0, b)), (5, (0, x))]) (st' := [(0, 1)]) rfl ?_
            refine jgoto hF (off := 4) 96 (by decide +kernel) (by decide) ?_
            refine jblk hF [(.istore 7, 2)] (by decide +kernel) (pc' := 98) (lo' := [(7, (0, 1)), (6, (0, 1)), (0, (2, 35)), (1, (0, t)), (2, (0, lab)), (3, (0, n)), (4, (0, b)), (5, (0, x))]) (st' := []) rfl ?_
            have hrunq : runC (m_18 43) SS (some []) = some [v2] := by rw [← hr2]; exact run_congr ⟨by simp [envF, hm43.1], by simp [envF, hm43.2.1], by simp [envF, hm43.2.2]⟩ _ SS _ (Nat.le_refl _)
            have hsgq : SG (m_18 41) (m_18 35 19) (SS ++ [3]) := by rw [hr19, show m_18 41 = mem 41 from funext hm41]; exact hsS
            have hltq : InI (m_18 43 98) ∧ InI (m_18 43 110) ∧ InI (m_18 43 120) := by rw [hm43.1, hm43.2.1, hm43.2.2]; exact ⟨h_b, h_n, h_x⟩
            refine jblk hF [(.aload_n 0, 1)] (by decide +kernel) (pc' := 99) (lo' := [(7, (0, 1)), (6, (0, 1)), (0, (2, 35)), (1, (0, t)), (2, (0, lab)), (3, (0, n)), (4, (0, b)), (5, (0, x))]) (st' := [(2, 35)]) rfl ?_
            refine jcallV hF (c_X12_work hG hS hR_m_18 (by exact SS) (by exact 3) (by exact v2) (by exact hrunq) (by first | exact Or.inl rfl | exact Or.inr rfl) (by exact hsgq) (by assumption) (by omega) (by omega) (by exact hltq)) MW_X12_work 13 (by decide) (by exact hS.k35) wd_1903 wd_1905 wd_p69 (by decide +kernel) [] rfl rfl (by decide) (Nat.le_of_ble_eq_true rfl) (by decide) (kMR (fun v_29 m_27 h_28 => ?_))
            obtain ⟨hR_m_27, h_28⟩ := h_28
            obtain ⟨hwv2, hw192, hwf2⟩ := h_28
            have hm43b : m_27 43 98 = b ∧ m_27 43 110 = n ∧ m_27 43 120 = x := ⟨(hwf2 43 98 (by decide) (by omega)).trans hm43.1, (hwf2 43 110 (by decide) (by omega)).trans hm43.2.1, (hwf2 43 120 (by decide) (by omega)).trans hm43.2.2⟩
            have hf6 : WOF mem m_27 := fun a j q1 q2 q3 => (hwf2 a j q2 q3).trans (hf5 a j q1 q2 q3)
            have hr192 : m_27 35 19 = m3 35 19 + 1 + CC.length + 1 + SS.length + 1 := by rw [hw192, hr19]
            refine jblk hF [(.istore 8, 2), (.iload 6, 2)] (by decide +kernel) (pc' := 106) (lo' := [(8, (0, v_29)), (7, (0, 1)), (6, (0, 1)), (0, (2, 35)), (1, (0, t)), (2, (0, lab)), (3, (0, n)), (4, (0, b)), (5, (0, x))]) (st' := [(0, 1)]) rfl ?_
            refine jif_eq hF (off := 11) 117 (by decide +kernel) (by decide) (by decide) (fun h => absurd h (by decide)) (fun _ => ?_)
            refine jblk hF [(.iload 7, 2)] (by decide +kernel) (pc' := 111) (lo' := [(8, (0, v_29)), (7, (0, 1)), (6, (0, 1)), (0, (2, 35)), (1, (0, t)), (2, (0, lab)), (3, (0, n)), (4, (0, b)), (5, (0, x))]) (st' := [(0, 1)]) rfl ?_
            refine jif_eq hF (off := 6) 117 (by decide +kernel) (by decide) (by decide) (fun h => absurd h (by decide)) (fun _ => ?_)
            refine jblk hF [(.iload 8, 2)] (by decide +kernel) (pc' := 116) (lo' := [(8, (0, v_29)), (7, (0, 1)), (6, (0, 1)), (0, (2, 35)), (1, (0, t)), (2, (0, lab)), (3, (0, n)), (4, (0, b)), (5, (0, x))]) (st' := [(0, v_29)]) rfl ?_
            refine jiret hF hr (by decide +kernel) ?_
            exact lMR ⟨hR_m_27, by exact ⟨by rw [hwv2]; exact (hy1 ⟨by omega, by omega⟩).symm, hf6⟩⟩
  refine jsub [0, 1, 2, 3, 4, 5] rfl ?_
  refine L_2 _ (set2 (set2 (set2 (set2 mem 43 110 n) 43 98 b) 43 120 x) 35 19 (620 * t)) ((fauP T L).2.2) 0 200 ?_ ?_ ?_ ?_ ?_ ?_ (Nat.lt_succ_self _)
  · exact (SR.s (SR.s (SR.s (SR.s hR (Or.inl (by decide))) (Or.inl (by decide))) (Or.inl (by decide))) (Or.inr (by decide)))
  · (intro a j q1 q2 q3; simp [set2, q1, q3])
  · exact ⟨by simp [set2], by simp [set2], by simp [set2]⟩
  · rw [s2_s]; exact hsg
  · rw [s2_s]; omega
  · exact Or.inr ⟨by omega, by omega, by omega, hfa, rfl, rfl⟩
end
