section PARSE
/-! reading a text as a plan: positions, codes, errors, as functions -/
abbrev PR : Type := Int × Int × List Int
def okP (a : Int) (c : List Int) : PR := (-1, a, c)
def erP (w : Int) : PR := (w, 0, [])
def bnd (r : PR) (f : Int → List Int → PR) : PR := if r.1 = -1 then f r.2.1 r.2.2 else erP r.1
theorem bnd_ok {a : Int} {c : List Int} {f : Int → List Int → PR} : bnd (okP a c) f = f a c := if_pos rfl
theorem bnd_is {r : PR} {f : Int → List Int → PR} (h : r.1 = -1) : bnd r f = f r.2.1 r.2.2 := if_pos h
theorem bnd_no {r : PR} {f : Int → List Int → PR} (h : r.1 ≠ -1) : bnd r f = erP r.1 := if_neg h
theorem bnd_er {w : Int} {f : Int → List Int → PR} (h : w ≠ -1) : bnd (erP w) f = erP w := if_neg h
theorem bnd_bnd (r : PR) (f g : Int → List Int → PR) : bnd (bnd r f) g = bnd r (fun a c => bnd (f a c) g) := by
  by_cases h : r.1 = -1
  · rw [bnd_is h, bnd_is h]
  · rw [bnd_no h, bnd_no h, bnd_er h]
theorem bnd_congr {r : PR} {f g : Int → List Int → PR} (h : r.1 = -1 → f r.2.1 r.2.2 = g r.2.1 r.2.2) : bnd r f = bnd r g := by
  by_cases e : r.1 = -1
  · rw [bnd_is e, bnd_is e, h e]
  · rw [bnd_no e, bnd_no e]
def skN (T : Int → Int) (L : Int) : Nat → Int → Int
  | 0, a => a
  | k + 1, a => if a < L ∧ T a = 32 then skN T L k (a + 1) else a
def skp (T : Int → Int) (L a : Int) : Int := skN T L (L - a).toNat a
def chr (T : Int → Int) (L a : Int) : Int := if a < L then T a else -1
theorem chr_in {T : Int → Int} {L a : Int} (h : a < L) : chr T L a = T a := if_pos h
theorem chr_out {T : Int → Int} {L a : Int} (h : ¬ a < L) : chr T L a = -1 := if_neg h
theorem chr_lt (T : Int → Int) {L a : Int} (h : chr T L a ≠ -1) : a < L := by
  rcases Int.lt_or_le a L with q | q
  · exact q
  · exact absurd (chr_out (by omega)) h
theorem skp_step {T : Int → Int} {L a : Int} (h : a < L) (h2 : T a = 32) : skp T L a = skp T L (a + 1) := by
  unfold skp
  rw [show (L - a).toNat = (L - (a + 1)).toNat + 1 by omega, skN, if_pos ⟨h, h2⟩]
theorem skp_stop {T : Int → Int} {L a : Int} (h : ¬ (a < L ∧ T a = 32)) : skp T L a = a := by
  unfold skp
  cases (L - a).toNat with
  | zero => rfl
  | succ k => rw [skN, if_neg h]
theorem skN_f (T : Int → Int) (L : Int) : ∀ (k : Nat) (a : Int), L - a ≤ k → a ≤ skN T L k a ∧ (a ≤ L → skN T L k a ≤ L) ∧ ¬ (skN T L k a < L ∧ T (skN T L k a) = 32) ∧ (∀ i : Int, a ≤ i → i < skN T L k a → T i = 32) := by
  intro k
  induction k with
  | zero => intro a h; exact ⟨Int.le_refl a, fun h => h, fun q => by have := q.1; unfold skN at this; omega, fun i h1 h2 => by unfold skN at h2; omega⟩
  | succ k ih =>
    intro a h
    unfold skN
    by_cases q : a < L ∧ T a = 32
    · rw [if_pos q]
      obtain ⟨h1, h2, h3, h4⟩ := ih (a + 1) (by omega)
      refine ⟨by omega, fun _ => h2 (by omega), h3, fun i h5 h6 => ?_⟩
      by_cases e : i = a
      · rw [e]; exact q.2
      · exact h4 i (by omega) h6
    · rw [if_neg q]
      exact ⟨Int.le_refl a, fun h => h, q, fun i h1 h2 => by omega⟩
theorem skp_f (T : Int → Int) (L a : Int) : a ≤ skp T L a ∧ (a ≤ L → skp T L a ≤ L) ∧ ¬ (skp T L a < L ∧ T (skp T L a) = 32) ∧ (∀ i : Int, a ≤ i → i < skp T L a → T i = 32) := skN_f T L _ a (by omega)
theorem skp_skp (T : Int → Int) (L a : Int) : skp T L (skp T L a) = skp T L a := skp_stop (skp_f T L a).2.2.1
abbrev isDg (c : Int) : Prop := 48 ≤ c ∧ c ≤ 57
abbrev isSg (c : Int) : Prop := c = 61 ∨ c = 60 ∨ c = 62
abbrev isLb (c : Int) : Prop := c = 97 ∨ c = 111 ∨ c = 112 ∨ c = 99 ∨ c = 109 ∨ c = 102 ∨ c = 104 ∨ c = 115 ∨ c = 107 ∨ c = 116
def numL (T : Int → Int) (L : Int) : Nat → Int → Int → PR
  | 0, a, v => if a < L ∧ isDg (T a) then erP a else okP a [0, v]
  | k + 1, a, v => if a < L ∧ isDg (T a) then numL T L k (a + 1) (10 * v + (T a - 48)) else okP a [0, v]
def numP (T : Int → Int) (L a : Int) : PR := if isDg (chr T L a) then numL T L 4 a 0 else erP a
def clsP (T : Int → Int) (L c a : Int) (cs : List Int) : PR := if chr T L (skp T L a) = c then okP (skp T L a + 1) cs else erP (skp T L a)
def atomW (T : Int → Int) (L : Int) (inn : Int → PR) (a : Int) : PR :=
  if chr T L (skp T L a) = 91 then bnd (inn (skp T L a + 1)) (clsP T L 93)
  else if chr T L (skp T L a) = 110 ∨ chr T L (skp T L a) = 98 ∨ chr T L (skp T L a) = 120 then okP (skp T L a + 1) [1, chr T L (skp T L a)]
  else numP T L (skp T L a)
def opL (T : Int → Int) (L : Int) (op : Int → Bool) (sub : Int → PR) : Nat → Int → List Int → PR
  | 0, a, c => okP a c
  | k + 1, a, c => if op (chr T L (skp T L a)) = true then bnd (sub (skp T L a + 1)) (fun a' c' => opL T L op sub k a' (c ++ c' ++ [chr T L (skp T L a)])) else okP (skp T L a) c
def opW (T : Int → Int) (L : Int) (op : Int → Bool) (sub : Int → PR) (a : Int) : PR := bnd (sub a) (opL T L op sub 200)
def isMul (c : Int) : Bool := decide (c = 42 ∨ c = 47 ∨ c = 37)
def isAdd (c : Int) : Bool := decide (c = 43 ∨ c = 45)
def isAnd (c : Int) : Bool := decide (c = 38)
def isOr (c : Int) : Bool := decide (c = 124)
def noP (a : Int) : PR := erP (a - 1)
def termX (T : Int → Int) (L : Int) (inn : Int → PR) : Int → PR := opW T L isMul (atomW T L inn)
def sumX (T : Int → Int) (L : Int) (inn : Int → PR) : Int → PR := opW T L isAdd (termX T L inn)
def sumP (T : Int → Int) (L : Int) : Nat → Int → PR
  | 0 => sumX T L noP
  | u + 1 => sumX T L (sumP T L u)
def innP (T : Int → Int) (L : Int) : Nat → Int → PR
  | 0 => noP
  | u + 1 => sumP T L u
def atomP (T : Int → Int) (L : Int) (u : Nat) : Int → PR := atomW T L (innP T L u)
def termP (T : Int → Int) (L : Int) (u : Nat) : Int → PR := opW T L isMul (atomP T L u)
theorem sumP_eq (T : Int → Int) (L : Int) (u : Nat) : sumP T L u = opW T L isAdd (termP T L u) := by cases u <;> rfl
def cmpP (T : Int → Int) (L : Int) (u : Nat) (a : Int) (c : List Int) : PR := if isSg (chr T L (skp T L a)) then bnd (sumP T L u (skp T L a + 1)) (fun a' c' => okP a' (c ++ c' ++ [chr T L (skp T L a)])) else erP (skp T L a)
def unitW (T : Int → Int) (L : Int) (u : Nat) (iu ic : Int → PR) (a : Int) : PR :=
  if chr T L (skp T L a) = 33 then bnd (iu (skp T L a + 1)) (fun a' c => okP a' (c ++ [33]))
  else if chr T L (skp T L a) = 40 then bnd (ic (skp T L a + 1)) (clsP T L 41)
  else bnd (sumP T L u (skp T L a)) (cmpP T L u)
def condW (T : Int → Int) (L : Int) (un : Int → PR) : Int → PR := opW T L isOr (opW T L isAnd un)
def ucP (T : Int → Int) (L : Int) : Nat → (Int → PR) × (Int → PR)
  | 0 => (unitW T L 0 noP noP, condW T L (unitW T L 0 noP noP))
  | u + 1 => (unitW T L (u + 1) (ucP T L u).1 (ucP T L u).2, condW T L (unitW T L (u + 1) (ucP T L u).1 (ucP T L u).2))
def unitP (T : Int → Int) (L : Int) (u : Nat) : Int → PR := (ucP T L u).1
def partP (T : Int → Int) (L : Int) (u : Nat) : Int → PR := opW T L isAnd (unitP T L u)
def condP (T : Int → Int) (L : Int) (u : Nat) : Int → PR := (ucP T L u).2
def inuP (T : Int → Int) (L : Int) : Nat → Int → PR
  | 0 => noP
  | u + 1 => unitP T L u
def incP (T : Int → Int) (L : Int) : Nat → Int → PR
  | 0 => noP
  | u + 1 => condP T L u
theorem unitP_eq (T : Int → Int) (L : Int) (u : Nat) : unitP T L u = unitW T L u (inuP T L u) (incP T L u) := by cases u <;> rfl
theorem condP_eq (T : Int → Int) (L : Int) (u : Nat) : condP T L u = opW T L isOr (partP T L u) := by cases u <;> rfl
/-! what the codes are worth -/
def cutV (v : Int) : Int := if (if v < 1000000 then v else 1000000) < -1000000 then -1000000 else if v < 1000000 then v else 1000000
def bothV (c a b : Int) : Int :=
  if c = 43 then cutV (a + b) else if c = 45 then cutV (a - b) else if c = 42 then cutV (a * b)
  else if c = 47 then (if b = 0 then 0 else cutV (a.tdiv b)) else if c = 37 then (if b = 0 then 0 else cutV (a.tmod b))
  else if c = 61 then (if a = b then 1 else 0) else if c = 60 then (if a < b then 1 else 0) else if c = 62 then (if b < a then 1 else 0)
  else if c = 38 then (if a ≠ 0 ∧ b ≠ 0 then 1 else 0) else (if a ≠ 0 ∨ b ≠ 0 then 1 else 0)
theorem cutV_bd (v : Int) : -1000000 ≤ cutV v ∧ cutV v ≤ 1000000 := by
  unfold cutV
  split <;> (try split) <;> omega
theorem bothV_bd (c a b : Int) : -1000000 ≤ bothV c a b ∧ bothV c a b ≤ 1000000 := by
  have h1 := cutV_bd (a + b)
  have h2 := cutV_bd (a - b)
  have h3 := cutV_bd (a * b)
  have h4 := cutV_bd (a.tdiv b)
  have h5 := cutV_bd (a.tmod b)
  unfold bothV
  generalize a * b = x at *
  generalize a.tdiv b = y at *
  generalize a.tmod b = w at *
  (repeat' split) <;> omega
abbrev isOp (x : Int) : Prop := x = 43 ∨ x = 45 ∨ x = 42 ∨ x = 47 ∨ x = 37 ∨ x = 61 ∨ x = 60 ∨ x = 62 ∨ x = 38 ∨ x = 124
def notV (a : Int) : Int := if a = 0 then 1 else 0
def op1 (x : Int) : Option (List Int) → Option (List Int)
  | some (a :: []) => if x = 33 then some [notV a] else none
  | some (b :: a :: s) => if x = 33 then some (notV b :: a :: s) else if isOp x then some (bothV x a b :: s) else none
  | _ => none
def runC (env : Int → Int) : List Int → Option (List Int) → Option (List Int)
  | [], st => st
  | [x], st => op1 x st
  | x :: y :: r, st => if x = 0 then runC env r (st.map (fun s => y :: s)) else if x = 1 then (if y = 98 ∨ y = 110 ∨ y = 120 then runC env r (st.map (fun s => env y :: s)) else none) else runC env (y :: r) (op1 x st)
theorem run_op (env : Int → Int) {x : Int} (h0 : x ≠ 0) (h1 : x ≠ 1) (r : List Int) (st : Option (List Int)) : runC env (x :: r) st = runC env r (op1 x st) := by
  cases r with
  | nil => rfl
  | cons y r => rw [runC, if_neg h0, if_neg h1]
theorem run_0 (env : Int → Int) (y : Int) (r : List Int) (st : Option (List Int)) : runC env (0 :: y :: r) st = runC env r (st.map (fun s => y :: s)) := by rw [runC, if_pos rfl]
theorem run_1 (env : Int → Int) {y : Int} (hy : y = 98 ∨ y = 110 ∨ y = 120) (r : List Int) (st : Option (List Int)) : runC env (1 :: y :: r) st = runC env r (st.map (fun s => env y :: s)) := by rw [runC, if_neg (by decide), if_pos rfl, if_pos hy]
theorem op1_none (x : Int) : op1 x none = none := rfl
theorem op1_bin {x a b : Int} {s : List Int} (h : isOp x) : op1 x (some (b :: a :: s)) = some (bothV x a b :: s) := by
  show (if x = 33 then some (notV b :: a :: s) else if isOp x then some (bothV x a b :: s) else none) = _
  rw [if_neg (by omega), if_pos h]
theorem op1_not {a : Int} {s : List Int} : op1 33 (some (a :: s)) = some (notV a :: s) := by
  cases s with
  | nil => exact (if_pos (rfl : (33 : Int) = 33) : (if (33 : Int) = 33 then some [notV a] else none) = some [notV a])
  | cons b s => exact (if_pos (rfl : (33 : Int) = 33) : (if (33 : Int) = 33 then some (notV a :: b :: s) else if isOp 33 then some (bothV 33 b a :: s) else none) = some (notV a :: b :: s))
theorem run_none (env : Int → Int) : ∀ (n : Nat) (c : List Int), c.length ≤ n → runC env c none = none := by
  intro n
  induction n with
  | zero => intro c h; cases c with
    | nil => rfl
    | cons x c => simp at h
  | succ n ih =>
    intro c h
    match c, h with
    | [], _ => rfl
    | [x], _ => rfl
    | x :: y :: r, h =>
      simp only [List.length_cons] at h
      rw [runC]
      split
      · exact ih r (by omega)
      · split
        · split
          · exact ih r (by omega)
          · rfl
        · exact ih (y :: r) (by simp only [List.length_cons]; omega)
def EV (env : Int → Int) (c : List Int) (v : Int) : Prop := InI v ∧ ∀ (r : List Int) (st : List Int), runC env (c ++ r) (some st) = runC env r (some (v :: st))
def valC (env : Int → Int) (c : List Int) : Int := ((runC env c (some [])).getD []).headD 0
theorem EV.run {env : Int → Int} {c : List Int} {v : Int} (h : EV env c v) : runC env c (some []) = some [v] := by
  have := h.2 [] []
  rw [List.append_nil] at this
  exact this
theorem EV.val {env : Int → Int} {c : List Int} {v : Int} (h : EV env c v) : valC env c = v := by
  unfold valC
  rw [h.run]
  rfl
theorem EV.num {env : Int → Int} {v : Int} (h : InI v) : EV env [0, v] v := ⟨h, fun r st => run_0 env v r _⟩
theorem EV.let {env : Int → Int} {x : Int} (h : InI (env x)) (hx : x = 98 ∨ x = 110 ∨ x = 120) : EV env [1, x] (env x) := ⟨h, fun r st => run_1 env hx r _⟩
theorem EV.bin {env : Int → Int} {c c' : List Int} {v v' x : Int} (h : EV env c v) (h' : EV env c' v') (hx : isOp x) : EV env (c ++ c' ++ [x]) (bothV x v v') := by
  refine ⟨by have := bothV_bd x v v'; exact ⟨by omega, by omega⟩, fun r st => ?_⟩
  rw [List.append_assoc, List.append_assoc, h.2, h'.2]
  show runC env (x :: r) _ = _
  rw [run_op env (by omega) (by omega), op1_bin hx]
theorem EV.not {env : Int → Int} {c : List Int} {v : Int} (h : EV env c v) : EV env (c ++ [33]) (notV v) := by
  refine ⟨by unfold notV; split <;> exact ⟨by omega, by omega⟩, fun r st => ?_⟩
  rw [List.append_assoc, h.2]
  show runC env (33 :: r) _ = _
  rw [run_op env (by decide) (by decide), op1_not]
/-! how far a reading comes -/
def GA (T : Int → Int) (L a0 a : Int) (c : List Int) : Prop := a0 < a ∧ a ≤ L ∧ 1 ≤ (c.length : Int) ∧ (c.length : Int) ≤ 2 * (a - a0) ∧ (∀ x ∈ c, 0 ≤ x ∧ x ≤ 9999) ∧ (∀ i : Int, a0 ≤ i → i < a → T i ≠ 59) ∧ ∀ env : Int → Int, (∀ x, InI (env x)) → ∃ v, EV env c v
def GD (T : Int → Int) (L a0 : Int) (r : PR) : Prop := (r.1 = -1 → GA T L a0 r.2.1 r.2.2) ∧ (r.1 ≠ -1 → a0 ≤ r.1 ∧ r.1 ≤ L)
theorem GD.ok {T : Int → Int} {L a0 a : Int} {c : List Int} (h : GA T L a0 a c) : GD T L a0 (okP a c) := ⟨fun _ => h, fun q => absurd rfl q⟩
theorem GD.er {T : Int → Int} {L a0 w : Int} (h0 : 0 ≤ a0) (h : a0 ≤ w ∧ w ≤ L) : GD T L a0 (erP w) := ⟨fun q => by have : w = -1 := q; omega, fun _ => h⟩
theorem GD.bnd {T : Int → Int} {L a0 b0 : Int} {r : PR} {f : Int → List Int → PR} (h0 : 0 ≤ a0) (hb : a0 ≤ b0) (h : GD T L b0 r) (k : ∀ a c, GA T L b0 a c → GD T L a0 (f a c)) : GD T L a0 (bnd r f) := by
  by_cases e : r.1 = -1
  · rw [bnd_is e]
    exact k _ _ (h.1 e)
  · rw [bnd_no e]
    have := h.2 e
    exact GD.er h0 (by omega)
theorem GA.back {T : Int → Int} {L a0 b0 a : Int} {c : List Int} (h : GA T L b0 a c) (hb : a0 ≤ b0) (hn : ∀ i : Int, a0 ≤ i → i < b0 → T i ≠ 59) : GA T L a0 a c := by
  obtain ⟨h1, h2, h3, h4, h5, h6, h7⟩ := h
  exact ⟨by omega, h2, h3, by omega, h5, fun i q1 q2 => by
    rcases Int.lt_or_le i b0 with q | q
    · exact hn i q1 q
    · exact h6 i q q2, h7⟩
theorem GA.fwd {T : Int → Int} {L a0 a b : Int} {c : List Int} (h : GA T L a0 a c) (hb : a ≤ b) (hL : b ≤ L) (hn : ∀ i : Int, a ≤ i → i < b → T i ≠ 59) : GA T L a0 b c := by
  obtain ⟨h1, h2, h3, h4, h5, h6, h7⟩ := h
  exact ⟨by omega, hL, h3, by omega, h5, fun i q1 q2 => by
    rcases Int.lt_or_le i a with q | q
    · exact h6 i q1 q
    · exact hn i q q2, h7⟩
theorem GA.skp {T : Int → Int} {L a0 a : Int} {c : List Int} (h : GA T L a0 a c) : GA T L a0 (skp T L a) c := by
  obtain ⟨s1, s2, -, s4⟩ := skp_f T L a
  exact h.fwd s1 (s2 h.2.1) (fun i q1 q2 => by rw [s4 i q1 q2]; decide)
theorem GA.join {T : Int → Int} {L a0 a b a' x : Int} {c c' : List Int} (h : GA T L a0 a c) (hb : a < b) (h' : GA T L b a' c') (hn : ∀ i : Int, a ≤ i → i < b → T i ≠ 59) (hx : isOp x) : GA T L a0 a' (c ++ c' ++ [x]) := by
  obtain ⟨h1, h2, h3, h4, h5, h6, h7⟩ := h
  obtain ⟨g1, g2, g3, g4, g5, g6, g7⟩ := h'
  refine ⟨by omega, g2, by simp; omega, by simp only [List.length_append, List.length_cons, List.length_nil]; omega, fun y hy => ?_, fun i q1 q2 => ?_, fun env he => ?_⟩
  · rcases List.mem_append.mp hy with q | q
    · rcases List.mem_append.mp q with q | q
      · exact h5 y q
      · exact g5 y q
    · rw [List.mem_singleton.mp q]; omega
  · rcases Int.lt_or_le i a with q | q
    · exact h6 i q1 q
    · rcases Int.lt_or_le i b with q' | q'
      · exact hn i q q'
      · exact g6 i q' q2
  · obtain ⟨v, hv⟩ := h7 env he
    obtain ⟨w, hw⟩ := g7 env he
    exact ⟨_, hv.bin hw hx⟩
theorem opL_gd {T : Int → Int} {L : Int} {op : Int → Bool} {sub : Int → PR} (hop : ∀ c, op c = true → isOp c) (hs : ∀ a, 0 ≤ a → a ≤ L → GD T L a (sub a)) {a0 : Int} (h0 : 0 ≤ a0) : ∀ (k : Nat) (a : Int) (c : List Int), GA T L a0 a c → GD T L a0 (opL T L op sub k a c) := by
  intro k
  induction k with
  | zero => intro a c h; exact GD.ok h
  | succ k ih =>
    intro a c h
    unfold opL
    obtain ⟨s1, s2, -, s4⟩ := skp_f T L a
    have hL := s2 h.2.1
    have ha := h.1
    split
    · rename_i ho
      have hx := hop _ ho
      have hlt : skp T L a < L := chr_lt T (by omega)
      have hT : chr T L (skp T L a) = T (skp T L a) := chr_in hlt
      refine GD.bnd h0 (by omega) (hs (skp T L a + 1) (by omega) (by omega)) (fun a' c' h' => ih a' _ (h.join (by omega) h' (fun i q1 q2 => ?_) hx))
      by_cases e : i = skp T L a
      · rw [e, ← hT]; omega
      · rw [s4 i q1 (by omega)]; decide
    · exact GD.ok h.skp
theorem opW_gd {T : Int → Int} {L : Int} {op : Int → Bool} {sub : Int → PR} (hop : ∀ c, op c = true → isOp c) (hs : ∀ a, 0 ≤ a → a ≤ L → GD T L a (sub a)) : ∀ a, 0 ≤ a → a ≤ L → GD T L a (opW T L op sub a) :=
  fun a h0 h1 => GD.bnd h0 (Int.le_refl a) (hs a h0 h1) (fun a' c' h => opL_gd hop hs h0 200 a' c' h)
theorem isMul_op : ∀ c, isMul c = true → isOp c := fun c h => by have := of_decide_eq_true h; omega
theorem isAdd_op : ∀ c, isAdd c = true → isOp c := fun c h => by have := of_decide_eq_true h; omega
theorem isAnd_op : ∀ c, isAnd c = true → isOp c := fun c h => by have := of_decide_eq_true h; omega
theorem isOr_op : ∀ c, isOr c = true → isOp c := fun c h => by have := of_decide_eq_true h; omega
theorem p10 (k : Nat) : (1 : Int) ≤ 10 ^ k := by
  induction k with
  | zero => decide
  | succ k ih => rw [Int.pow_succ]; omega
theorem numL_gd {T : Int → Int} {L a0 : Int} (h0 : 0 ≤ a0) : ∀ (k : Nat) (a v : Int), a0 < a → a ≤ L → 0 ≤ v → (v + 1) * 10 ^ k ≤ 10000 → (∀ i : Int, a0 ≤ i → i < a → T i ≠ 59) → GD T L a0 (numL T L k a v) := by
  intro k
  have fin : ∀ (a v : Int), a0 < a → a ≤ L → 0 ≤ v → v ≤ 9999 → (∀ i : Int, a0 ≤ i → i < a → T i ≠ 59) → GD T L a0 (okP a [0, v]) := fun a v h1 h2 h3 h4 h5 => GD.ok ⟨h1, h2, by simp, by simp; omega, fun x hx => by
    rcases List.mem_cons.mp hx with q | q
    · omega
    · rw [List.mem_singleton.mp q]; omega, h5, fun env _ => ⟨v, EV.num ⟨by omega, by omega⟩⟩⟩
  induction k with
  | zero =>
    intro a v h1 h2 h3 h4 h5
    unfold numL
    split
    · exact GD.er h0 (by omega)
    · exact fin a v h1 h2 h3 (by omega) h5
  | succ k ih =>
    intro a v h1 h2 h3 h4 h5
    have hp := p10 k
    have hp1 := p10 (k + 1)
    have hv1 : v + 1 ≤ (v + 1) * 10 ^ (k + 1) := by
      have := Int.mul_le_mul_of_nonneg_left hp1 (show 0 ≤ v + 1 by omega)
      omega
    unfold numL
    split
    · rename_i hq
      refine ih (a + 1) _ (by omega) (by omega) (by omega) ?_ (fun i q1 q2 => ?_)
      · have e1 : (10 * v + (T a - 48) + 1) * 10 ^ k ≤ (10 * (v + 1)) * 10 ^ k := Int.mul_le_mul_of_nonneg_right (by omega) (by omega)
        have e2 : (10 * (v + 1)) * 10 ^ k = (v + 1) * 10 ^ (k + 1) := by rw [Int.pow_succ, Int.mul_comm 10, Int.mul_assoc, Int.mul_comm 10]
        omega
      · by_cases e : i = a
        · rw [e]; omega
        · exact h5 i q1 (by omega)
    · exact fin a v h1 h2 h3 (by omega) h5
theorem numP_gd {T : Int → Int} {L a : Int} (h0 : 0 ≤ a) (h1 : a ≤ L) : GD T L a (numP T L a) := by
  unfold numP
  split
  · rename_i h
    have hlt : a < L := chr_lt T (by omega)
    have hT := chr_in (T := T) hlt
    rw [hT] at h
    rw [show (4 : Nat) = 3 + 1 from rfl, numL, if_pos ⟨hlt, h⟩]
    exact numL_gd h0 3 (a + 1) _ (by omega) (by omega) (by omega) (by omega) (fun i q1 q2 => by rw [show i = a by omega]; omega)
  · exact GD.er h0 (by omega)
theorem clsP_gd {T : Int → Int} {L a0 a ch : Int} {c : List Int} (h0 : 0 ≤ a0) (h : GA T L a0 a c) (hc : ch ≠ 59) (hc1 : ch ≠ -1) : GD T L a0 (clsP T L ch a c) := by
  have hs := h.skp
  have hs2 := hs.2.1
  have hs1 := hs.1
  unfold clsP
  split
  · rename_i he
    have hlt : skp T L a < L := chr_lt T (by omega)
    have hT := chr_in (T := T) hlt
    exact GD.ok (hs.fwd (by omega) (by omega) (fun i q1 q2 => by rw [show i = skp T L a by omega, ← hT, he]; exact hc))
  · exact GD.er h0 (by omega)
theorem GD.low {T : Int → Int} {L a0 b0 : Int} {r : PR} (h : GD T L b0 r) (h0 : 0 ≤ a0) (hb : a0 ≤ b0) (hn : ∀ i : Int, a0 ≤ i → i < b0 → T i ≠ 59) : GD T L a0 r :=
  ⟨fun e => (h.1 e).back hb hn, fun e => by have := h.2 e; omega⟩
theorem sk_no {T : Int → Int} {L a : Int} (h : chr T L (skp T L a) ≠ 59) (hlt : skp T L a < L) : ∀ i : Int, a ≤ i → i < skp T L a + 1 → T i ≠ 59 := by
  intro i q1 q2
  obtain ⟨s1, s2, -, s4⟩ := skp_f T L a
  by_cases e : i = skp T L a
  · rw [e, ← chr_in (T := T) hlt]; exact h
  · rw [s4 i q1 (by omega)]; decide
theorem atomW_gd {T : Int → Int} {L : Int} {inn : Int → PR} (hi : ∀ a, 1 ≤ a → a ≤ L → T (a - 1) ≠ 59 → GD T L (a - 1) (inn a)) : ∀ a, 0 ≤ a → a ≤ L → GD T L a (atomW T L inn a) := by
  intro a h0 h1
  obtain ⟨s1, s2, -, s4⟩ := skp_f T L a
  have hL := s2 h1
  have s4' : ∀ i : Int, a ≤ i → i < skp T L a → T i ≠ 59 := fun i q1 q2 => by rw [s4 i q1 q2]; decide
  unfold atomW
  split
  · rename_i he
    have hlt : skp T L a < L := chr_lt T (by omega)
    have hh := hi (skp T L a + 1) (by omega) (by omega)
    rw [show skp T L a + 1 - 1 = skp T L a by omega] at hh
    have hh := hh (by rw [← chr_in (T := T) hlt, he]; decide)
    exact GD.bnd h0 (Int.le_refl a) (hh.low h0 s1 s4') (fun a' c' h => clsP_gd h0 h (by decide) (by decide))
  · split
    · rename_i he
      have hlt : skp T L a < L := chr_lt T (by omega)
      refine GD.ok ⟨by omega, by omega, by simp, by simp; omega, fun x hx => ?_, sk_no (by omega) hlt, fun env hv => ⟨_, EV.let (hv _) (by omega)⟩⟩
      rcases List.mem_cons.mp hx with q | q
      · omega
      · rw [List.mem_singleton.mp q]; omega
    · exact (numP_gd (by omega) hL).low h0 s1 s4'
theorem noP_gd {T : Int → Int} {L : Int} : ∀ a, 1 ≤ a → a ≤ L → T (a - 1) ≠ 59 → GD T L (a - 1) (noP a) := fun a h0 h1 _ => GD.er (by omega) (by omega)
theorem low1 {T : Int → Int} {L : Int} {f : Int → PR} (h : ∀ a, 0 ≤ a → a ≤ L → GD T L a (f a)) : ∀ a, 1 ≤ a → a ≤ L → T (a - 1) ≠ 59 → GD T L (a - 1) (f a) := fun a h1 h2 h3 =>
  (h a (by omega) h2).low (by omega) (by omega) (fun i q1 q2 => by rw [show i = a - 1 by omega]; exact h3)
theorem sumX_gd {T : Int → Int} {L : Int} {inn : Int → PR} (hi : ∀ a, 1 ≤ a → a ≤ L → T (a - 1) ≠ 59 → GD T L (a - 1) (inn a)) : ∀ a, 0 ≤ a → a ≤ L → GD T L a (sumX T L inn a) := opW_gd isAdd_op (opW_gd isMul_op (atomW_gd hi))
theorem sumP_gd (T : Int → Int) (L : Int) : ∀ (u : Nat) (a : Int), 0 ≤ a → a ≤ L → GD T L a (sumP T L u a) := by
  intro u
  induction u with
  | zero => exact sumX_gd noP_gd
  | succ u ih => exact sumX_gd (low1 ih)
theorem innP_gd (T : Int → Int) (L : Int) (u : Nat) : ∀ a, 1 ≤ a → a ≤ L → T (a - 1) ≠ 59 → GD T L (a - 1) (innP T L u a) := by
  cases u with
  | zero => exact noP_gd
  | succ u => exact low1 (sumP_gd T L u)
theorem atomP_gd (T : Int → Int) (L : Int) (u : Nat) : ∀ a, 0 ≤ a → a ≤ L → GD T L a (atomP T L u a) := atomW_gd (innP_gd T L u)
theorem termP_gd (T : Int → Int) (L : Int) (u : Nat) : ∀ a, 0 ≤ a → a ≤ L → GD T L a (termP T L u a) := opW_gd isMul_op (atomP_gd T L u)
theorem cmpP_gd {T : Int → Int} {L : Int} {u : Nat} {a0 a : Int} {c : List Int} (h0 : 0 ≤ a0) (h : GA T L a0 a c) : GD T L a0 (cmpP T L u a c) := by
  have hs := h.skp
  have hs2 := hs.2.1
  have hs1 := hs.1
  obtain ⟨s1, s2, -, s4⟩ := skp_f T L a
  unfold cmpP
  split
  · rename_i he
    have hlt : skp T L a < L := chr_lt T (by omega)
    exact GD.bnd h0 (by omega) (sumP_gd T L u (skp T L a + 1) (by omega) (by omega)) (fun a' c' h' => GD.ok (h.join (by omega) h' (sk_no (by omega) hlt) (by omega)))
  · exact GD.er h0 (by omega)
theorem GA.nt {T : Int → Int} {L a0 a : Int} {c : List Int} (h : GA T L (a0 + 1) a c) (hn : T a0 ≠ 59) : GA T L a0 a (c ++ [33]) := by
  obtain ⟨h1, h2, h3, h4, h5, h6, h7⟩ := h
  refine ⟨by omega, h2, by simp only [List.length_append, List.length_cons, List.length_nil]; omega, by simp only [List.length_append, List.length_cons, List.length_nil]; omega, fun x hx => ?_, fun i q1 q2 => ?_, fun env he => ?_⟩
  · rcases List.mem_append.mp hx with q | q
    · exact h5 x q
    · rw [List.mem_singleton.mp q]; omega
  · by_cases e : i = a0
    · rw [e]; exact hn
    · exact h6 i (by omega) q2
  · obtain ⟨v, hv⟩ := h7 env he
    exact ⟨_, hv.not⟩
theorem unitW_gd {T : Int → Int} {L : Int} {u : Nat} {iu ic : Int → PR} (hu : ∀ a, 1 ≤ a → a ≤ L → T (a - 1) ≠ 59 → (iu a).1 = -1 → GA T L a (iu a).2.1 (iu a).2.2) (hu' : ∀ a, 1 ≤ a → a ≤ L → T (a - 1) ≠ 59 → GD T L (a - 1) (iu a)) (hc : ∀ a, 1 ≤ a → a ≤ L → T (a - 1) ≠ 59 → GD T L (a - 1) (ic a)) : ∀ a, 0 ≤ a → a ≤ L → GD T L a (unitW T L u iu ic a) := by
  intro a h0 h1
  obtain ⟨s1, s2, -, s4⟩ := skp_f T L a
  have hL := s2 h1
  have s4' : ∀ i : Int, a ≤ i → i < skp T L a → T i ≠ 59 := fun i q1 q2 => by rw [s4 i q1 q2]; decide
  unfold unitW
  split
  · rename_i he
    have hlt : skp T L a < L := chr_lt T (by omega)
    have hT : T (skp T L a) ≠ 59 := by rw [← chr_in (T := T) hlt, he]; decide
    by_cases e : (iu (skp T L a + 1)).1 = -1
    · rw [bnd_is e]
      have := hu (skp T L a + 1) (by omega) (by omega) (by rw [show skp T L a + 1 - 1 = skp T L a by omega]; exact hT) e
      exact GD.ok ((this.nt hT).back s1 s4')
    · rw [bnd_no e]
      have := (hu' (skp T L a + 1) (by omega) (by omega) (by rw [show skp T L a + 1 - 1 = skp T L a by omega]; exact hT)).2 e
      exact GD.er h0 (by omega)
  · split
    · rename_i he
      have hlt : skp T L a < L := chr_lt T (by omega)
      have hT : T (skp T L a) ≠ 59 := by rw [← chr_in (T := T) hlt, he]; decide
      have hh := hc (skp T L a + 1) (by omega) (by omega) (by rw [show skp T L a + 1 - 1 = skp T L a by omega]; exact hT)
      rw [show skp T L a + 1 - 1 = skp T L a by omega] at hh
      exact GD.bnd h0 (Int.le_refl a) (hh.low h0 s1 s4') (fun a' c' h => clsP_gd h0 h (by decide) (by decide))
    · exact GD.bnd h0 (Int.le_refl a) ((sumP_gd T L u _ (by omega) hL).low h0 s1 s4') (fun a' c' h => cmpP_gd h0 h)
theorem ucP_gd (T : Int → Int) (L : Int) : ∀ u : Nat, (∀ a, 0 ≤ a → a ≤ L → GD T L a (unitP T L u a)) ∧ ∀ a, 0 ≤ a → a ≤ L → GD T L a (condP T L u a) := by
  intro u
  have nx : ∀ a : Int, 1 ≤ a → a ≤ L → T (a - 1) ≠ 59 → (noP a).1 = -1 → GA T L a (noP a).2.1 (noP a).2.2 := fun a h1 h2 h3 h4 => by have : a - 1 = -1 := h4; omega
  induction u with
  | zero =>
    have h1 : ∀ a, 0 ≤ a → a ≤ L → GD T L a (unitP T L 0 a) := unitW_gd nx noP_gd noP_gd
    exact ⟨h1, opW_gd isOr_op (opW_gd isAnd_op h1)⟩
  | succ u ih =>
    have h1 : ∀ a, 0 ≤ a → a ≤ L → GD T L a (unitP T L (u + 1) a) := unitW_gd (fun a q1 q2 _ q4 => (ih.1 a (by omega) q2).1 q4) (low1 ih.1) (low1 ih.2)
    exact ⟨h1, opW_gd isOr_op (opW_gd isAnd_op h1)⟩
theorem unitP_gd (T : Int → Int) (L : Int) (u : Nat) : ∀ a, 0 ≤ a → a ≤ L → GD T L a (unitP T L u a) := (ucP_gd T L u).1
theorem condP_gd (T : Int → Int) (L : Int) (u : Nat) : ∀ a, 0 ≤ a → a ≤ L → GD T L a (condP T L u a) := (ucP_gd T L u).2
theorem partP_gd (T : Int → Int) (L : Int) (u : Nat) : ∀ a, 0 ≤ a → a ≤ L → GD T L a (partP T L u a) := opW_gd isAnd_op (unitP_gd T L u)
/-- the loop's fuel doesn't matter where it is enough -/
theorem opL_fuel {T : Int → Int} {L : Int} {op : Int → Bool} {sub : Int → PR} (hop : ∀ c, op c = true → isOp c) (hs : ∀ a, 0 ≤ a → a ≤ L → GD T L a (sub a)) : ∀ (k k' : Nat) (a : Int) (c : List Int), 0 ≤ a → a ≤ L → L - a < k → L - a < k' → opL T L op sub k a c = opL T L op sub k' a c := by
  intro k
  induction k with
  | zero => intro k' a c h0 h1 h2; omega
  | succ k ih =>
    intro k' a c h0 h1 h2 h3
    obtain ⟨k', rfl⟩ : ∃ j, k' = j + 1 := ⟨k' - 1, by omega⟩
    obtain ⟨s1, s2, -, s4⟩ := skp_f T L a
    have hL := s2 h1
    unfold opL
    split
    · rename_i ho
      have hx := hop _ ho
      have hlt : skp T L a < L := chr_lt T (by omega)
      refine bnd_congr fun e => ih k' _ _ ?_ ?_ ?_ ?_
      all_goals (have hg := (hs (skp T L a + 1) (by omega) (by omega)).1 e; have := hg.1; have := hg.2.1; omega)
    · rfl
theorem opL_skp {T : Int → Int} {L : Int} {op : Int → Bool} {sub : Int → PR} {k : Nat} {a : Int} {c : List Int} : opL T L op sub (k + 1) (skp T L a) c = opL T L op sub (k + 1) a c := by
  unfold opL
  rw [skp_skp]
/-- conditions read in one loop -/
def jnO (cs ca : List Int) : List Int := if cs = [] then ca else cs ++ ca ++ [124]
def flL (T : Int → Int) (L : Int) (un : Int → PR) : Nat → Int → List Int → List Int → PR
  | 0, a, cs, ca => okP a (jnO cs ca)
  | k + 1, a, cs, ca => if chr T L (skp T L a) = 38 then bnd (un (skp T L a + 1)) (fun a' c' => flL T L un k a' cs (ca ++ c' ++ [38]))
    else if chr T L (skp T L a) = 124 then bnd (un (skp T L a + 1)) (fun a' c' => flL T L un k a' (jnO cs ca) c') else okP (skp T L a) (jnO cs ca)
theorem jnO_ne {cs ca : List Int} (h : ca ≠ []) : jnO cs ca ≠ [] := by
  unfold jnO
  split
  · exact h
  · simp
theorem GA.ne {T : Int → Int} {L a0 a : Int} {c : List Int} (h : GA T L a0 a c) : c ≠ [] := by
  intro e
  have := h.2.2.1
  rw [e] at this
  simp at this
theorem flL_eq {T : Int → Int} {L : Int} {un : Int → PR} (hs : ∀ a, 0 ≤ a → a ≤ L → GD T L a (un a)) (hL2 : L < 200) : ∀ (k k1 k2 : Nat) (a : Int) (cs ca : List Int), ca ≠ [] → 0 ≤ a → a ≤ L → L - a < k → L - a < k1 → L - a < k2 → flL T L un k a cs ca = bnd (opL T L isAnd un k1 a ca) (fun a' c' => opL T L isOr (opW T L isAnd un) k2 a' (jnO cs c')) := by
  intro k
  induction k with
  | zero => intro k1 k2 a cs ca hne h0 h1 h2; omega
  | succ k ih =>
    intro k1 k2 a cs ca hne h0 h1 h2 h3 h4
    obtain ⟨k1, rfl⟩ : ∃ j, k1 = j + 1 := ⟨k1 - 1, by omega⟩
    obtain ⟨k2, rfl⟩ : ∃ j, k2 = j + 1 := ⟨k2 - 1, by omega⟩
    obtain ⟨s1, s2, -, s4⟩ := skp_f T L a
    have hL := s2 h1
    rw [flL, opL]
    by_cases e1 : chr T L (skp T L a) = 38
    · have hlt : skp T L a < L := chr_lt T (by omega)
      rw [if_pos e1, if_pos (show isAnd (chr T L (skp T L a)) = true from decide_eq_true e1), bnd_bnd]
      refine bnd_congr fun e => ?_
      have hg := (hs (skp T L a + 1) (by omega) (by omega)).1 e
      have g1 := hg.1
      have g2 := hg.2.1
      show _ = bnd (opL T L isAnd un k1 _ (ca ++ (un (skp T L a + 1)).2.2 ++ [chr T L (skp T L a)])) _
      rw [e1]
      exact ih k1 (k2 + 1) _ cs _ (by simp) (by omega) (by omega) (by omega) (by omega) (by omega)
    · rw [if_neg e1, if_neg (show ¬ isAnd (chr T L (skp T L a)) = true from fun q => e1 (of_decide_eq_true q)), bnd_ok]
      rw [opL_skp, opL]
      by_cases e2 : chr T L (skp T L a) = 124
      · have hlt : skp T L a < L := chr_lt T (by omega)
        rw [if_pos e2, if_pos (show isOr (chr T L (skp T L a)) = true from decide_eq_true e2)]
        unfold opW
        rw [bnd_bnd]
        refine bnd_congr fun e => ?_
        have hg := (hs (skp T L a + 1) (by omega) (by omega)).1 e
        have g1 := hg.1
        have g2 := hg.2.1
        rw [ih 200 k2 _ (jnO cs ca) _ hg.ne (by omega) (by omega) (by omega) (by omega) (by omega)]
        refine bnd_congr fun e3 => ?_
        rw [e2]
        show _ = opL T L isOr _ k2 _ (jnO cs ca ++ _ ++ [124])
        rw [show jnO (jnO cs ca) (opL T L isAnd un 200 (un (skp T L a + 1)).2.1 (un (skp T L a + 1)).2.2).2.2 = jnO cs ca ++ (opL T L isAnd un 200 (un (skp T L a + 1)).2.1 (un (skp T L a + 1)).2.2).2.2 ++ [124] from if_neg (jnO_ne hne)]
        rfl
      · rw [if_neg e2, if_neg (show ¬ isOr (chr T L (skp T L a)) = true from fun q => e2 (of_decide_eq_true q))]
theorem condP_fl {T : Int → Int} {L : Int} {u : Nat} (hL2 : L < 199) {a : Int} (h0 : 0 ≤ a) (h1 : a ≤ L) : condP T L u a = bnd (unitP T L u a) (fun a' c' => flL T L (unitP T L u) 200 a' [] c') := by
  rw [condP_eq]
  unfold opW
  show bnd (partP T L u a) _ = _
  unfold partP opW
  rw [bnd_bnd]
  refine bnd_congr fun e => ?_
  have hg := (unitP_gd T L u a h0 h1).1 e
  have g1 := hg.1
  have g2 := hg.2.1
  rw [flL_eq (unitP_gd T L u) (by omega) 200 200 200 _ [] _ hg.ne (by omega) (by omega) (by omega) (by omega) (by omega)]
  rfl
/-! clauses, the whole text, what a label is worth -/
abbrev CR : Type := Int × Int × Int × List Int × List Int
def erC (w : Int) : CR := (w, 0, 0, [], [])
def finC (T : Int → Int) (L lab : Int) (r : PR) : CR :=
  if r.1 ≠ -1 then erC r.1 else if chr T L (skp T L r.2.1) ≠ 63 then erC (skp T L r.2.1)
  else if (sumP T L 6 (skp T L r.2.1 + 1)).1 ≠ -1 then erC (sumP T L 6 (skp T L r.2.1 + 1)).1 else (-1, (sumP T L 6 (skp T L r.2.1 + 1)).2.1, lab, r.2.2, (sumP T L 6 (skp T L r.2.1 + 1)).2.2)
def bodC (T : Int → Int) (L lab a : Int) : CR :=
  if chr T L a = 33 ∨ chr T L a = 40 then finC T L lab (condP T L 6 a)
  else if (sumP T L 6 a).1 ≠ -1 then erC (sumP T L 6 a).1
  else if isSg (chr T L (skp T L (sumP T L 6 a).2.1)) then finC T L lab (condP T L 6 a)
  else (-1, skp T L (sumP T L 6 a).2.1, lab, [0, 1], (sumP T L 6 a).2.2)
def clP (T : Int → Int) (L a : Int) : CR :=
  if ¬ isLb (chr T L (skp T L a)) then erC (skp T L a)
  else if chr T L (skp T L (skp T L a + 1)) ≠ 58 then erC (skp T L (skp T L a + 1))
  else bodC T L (chr T L (skp T L a)) (skp T L (skp T L (skp T L a + 1) + 1))
def enC (r : CR) : List Int := r.2.2.1 :: (r.2.2.2.1 ++ (2 :: (r.2.2.2.2 ++ [3])))
def clsL (T : Int → Int) (L : Int) : Nat → Int → List Int → PR
  | 0, a, _ => erP a
  | k + 1, a, c => if (clP T L a).1 ≠ -1 then erP (clP T L a).1
    else if chr T L (skp T L (clP T L a).2.1) = 59 then clsL T L k (skp T L (clP T L a).2.1 + 1) (c ++ enC (clP T L a))
    else if chr T L (skp T L (clP T L a).2.1) = -1 then okP (skp T L (clP T L a).2.1) (c ++ enC (clP T L a)) else erP (skp T L (clP T L a).2.1)
def fauP (T : Int → Int) (L : Int) : PR := clsL T L 200 0 []
def worL (T : Int → Int) (L : Int) (env : Int → Int) (lab : Int) : Nat → Int → Int
  | 0, _ => 0
  | k + 1, a => if (clP T L a).2.2.1 = lab ∧ valC env (clP T L a).2.2.2.1 ≠ 0 then valC env (clP T L a).2.2.2.2
    else if chr T L (skp T L (clP T L a).2.1) = 59 then worL T L env lab k (skp T L (clP T L a).2.1 + 1) else 0
def worV (T : Int → Int) (L : Int) (env : Int → Int) (lab : Int) : Int := worL T L env lab 200 0
end PARSE
