section
section
variable {f : Int → Int} {C : Nat → Int → Int} {s x G n : Int} {N h i o u : Int} {rs rs' tl tc ta : Int → Int}
def dB (G : Int) : Nat → Int
  | 0 => G
  | j + 1 => 2 * dB G j + G
theorem dif_bd {O : Nat} (h0 : ∀ n : Int, s ≤ n → n ≤ x → -G ≤ f n - C 0 n ∧ f n - C 0 n ≤ G) (hs : ∀ (j : Nat) (n : Int), j < O → s + j + 1 ≤ n → n ≤ x → -G ≤ C j n - C j (n - 1) - C (j + 1) n ∧ C j n - C j (n - 1) - C (j + 1) n ≤ G) : ∀ j : Nat, j ≤ O → ∀ n : Int, s + j ≤ n → n ≤ x → -dB G j ≤ bdiff f j n - C j n ∧ bdiff f j n - C j n ≤ dB G j := by
  intro j
  induction j with
  | zero => intro _ n h1 h2; exact h0 n (by omega) h2
  | succ j ih =>
    intro hj n h1 h2
    have a := ih (by omega) n (by omega) h2
    have b := ih (by omega) (n - 1) (by omega) (by omega)
    have c := hs j n (by omega) (by omega) h2
    show -(2 * dB G j + G) ≤ (bdiff f j n - bdiff f j (n - 1)) - C (j + 1) n ∧ (bdiff f j n - bdiff f j (n - 1)) - C (j + 1) n ≤ 2 * dB G j + G
    omega
theorem skipN_b : ∀ (k : Nat) (i : Int), i ≤ skipN rs i k ∧ skipN rs i k ≤ i + k := by
  intro k
  induction k with
  | zero => intro i; exact ⟨Int.le_refl _, by show i ≤ i + ((0 : Nat) : Int); omega⟩
  | succ k ih =>
    intro i
    have := ih (i + 1)
    unfold skipN
    split <;> omega
theorem skip_sh : ∀ (k : Nat) (i : Int), (∀ j : Int, i ≤ j → j < i + k → rs' j = rs (h + j)) → skipN rs (h + i) k = h + skipN rs' i k := by
  intro k
  induction k with
  | zero => intro i _; rfl
  | succ k ih =>
    intro i hh
    have e := hh i (by omega) (by omega)
    have r := ih (i + 1) (fun j q1 q2 => hh j (by omega) (by omega))
    unfold skipN
    rw [e]
    by_cases c : wL (rs (h + i)) = wL 0
    · rw [if_pos c, if_pos c, ← r, Int.add_assoc]
    · rw [if_neg c, if_neg c]
theorem skip_z : ∀ (k r : Nat) (i : Int), (∀ j : Int, i ≤ j → j < i + k → rs j = 0) → skipN rs i (k + r) = skipN rs (i + k) r := by
  intro k
  induction k with
  | zero => intro r i _; rw [show i + ((0 : Nat) : Int) = i by omega, Nat.zero_add]
  | succ k ih =>
    intro r i hh
    rw [show k + 1 + r = (k + r) + 1 by omega]
    show (if wL (rs i) = wL 0 then skipN rs (i + 1) (k + r) else i) = _
    rw [hh i (by omega) (by omega), if_pos rfl, ih r (i + 1) (fun j q1 q2 => hh j (by omega) (by omega)), show i + 1 + (k : Int) = i + ((k + 1 : Nat) : Int) by omega]
theorem finS_id {S : ST} (h1 : S.1 ≠ -1) (h2 : S.1 < u) : finS u tl tc ta S = S := by
  unfold finS
  rw [if_neg (by omega), if_neg (by omega), Int.add_zero]
theorem foldC_id {F : Int → ST → ST} {P : ST → Prop} (hF : ∀ c S, P S → F c S = S) : ∀ (k : Nat) (S : ST), P S → foldC F k S = S := by
  intro k
  induction k with
  | zero => intro S _; rfl
  | succ k ih => intro S hS; unfold foldC; rw [ih S hS]; exact hF _ S hS
theorem seekF_id : ∀ d : Nat, d ≤ 4 → ∀ (rs : Int → Int) (i : Int) (tl tc ta : Int → Int) (S : ST), S.1 ≠ -1 → S.1 < 4 - d → seekF N o h d rs i tl tc ta S = S := by
  intro d
  induction d with
  | zero =>
    intro _ rs i tl tc ta S h1 h2
    unfold seekF
    split
    · exact finS_id h1 (by omega)
    · rfl
  | succ d ih =>
    intro hd rs i tl tc ta S h1 h2
    unfold seekF
    split
    · exact finS_id h1 (by omega)
    · exact foldC_id (P := fun S => S.1 ≠ -1 ∧ S.1 < 4 - ((d + 1 : Nat) : Int)) (fun c S hS => ih (by omega) _ _ _ _ _ S hS.1 (by have := hS.2; omega)) _ S ⟨h1, h2⟩
/-- the search of the house and the model's stand alike -/
def TRS (S S' : ST) : Prop := (S.1 = 5 ∧ S'.1 = -1) ∨ (S.1 = S'.1 ∧ 0 ≤ S.1 ∧ S.1 ≤ 4 ∧ S.2.1 = S'.2.1 ∧ ∀ j : Int, 0 ≤ j → j < S.1 → S.2.2.1 j = S'.2.2.1 j ∧ S.2.2.2.1 j = S'.2.2.2.1 j ∧ S.2.2.2.2 j = S'.2.2.2.2 j)
theorem cpN_in {u j : Int} {a b : Int → Int} (hj : 0 ≤ j ∧ j < u) : cpN u a b j = a j := if_pos hj
theorem TRS.fin {S S' : ST} (hu : 0 ≤ u ∧ u ≤ 4) (hT : TRS S S') : TRS (finP u tl tc ta S) (finS u tl tc ta S') := by
  have new : TRS (u, 0 + 1, cpN u tl S.2.2.1, cpN u tc S.2.2.2.1, cpN u ta S.2.2.2.2) (u, 0 + 1, cpN u tl S'.2.2.1, cpN u tc S'.2.2.2.1, cpN u ta S'.2.2.2.2) := Or.inr ⟨rfl, hu.1, hu.2, rfl, fun j q1 q2 => ⟨by show cpN u tl _ j = cpN u tl _ j; rw [cpN_in ⟨q1, q2⟩, cpN_in ⟨q1, q2⟩], by show cpN u tc _ j = cpN u tc _ j; rw [cpN_in ⟨q1, q2⟩, cpN_in ⟨q1, q2⟩], by show cpN u ta _ j = cpN u ta _ j; rw [cpN_in ⟨q1, q2⟩, cpN_in ⟨q1, q2⟩]⟩⟩
  rcases hT with ⟨a1, a2⟩ | ⟨a1, a2, a3, a4, a5⟩
  · have x1 : finP u tl tc ta S = (u, 0 + 1, cpN u tl S.2.2.1, cpN u tc S.2.2.2.1, cpN u ta S.2.2.2.2) := by unfold finP; exact (if_neg (by omega)).trans (if_pos (by omega))
    have x2 : finS u tl tc ta S' = (u, 0 + 1, cpN u tl S'.2.2.1, cpN u tc S'.2.2.2.1, cpN u ta S'.2.2.2.2) := by unfold finS; exact if_pos (Or.inl a2)
    rw [x1, x2]; exact new
  · by_cases c1 : S.1 < u
    · have x1 : finP u tl tc ta S = S := by unfold finP; exact if_pos c1
      rw [x1, finS_id (by omega) (by omega)]
      exact Or.inr ⟨a1, a2, a3, a4, a5⟩
    · by_cases c2 : u < S.1
      · have x1 : finP u tl tc ta S = (u, 0 + 1, cpN u tl S.2.2.1, cpN u tc S.2.2.2.1, cpN u ta S.2.2.2.2) := by unfold finP; exact (if_neg c1).trans (if_pos c2)
        have x2 : finS u tl tc ta S' = (u, 0 + 1, cpN u tl S'.2.2.1, cpN u tc S'.2.2.2.1, cpN u ta S'.2.2.2.2) := by unfold finS; exact if_pos (Or.inr (by omega))
        rw [x1, x2]; exact new
      · have x1 : finP u tl tc ta S = (S.1, S.2.1 + 1, S.2.2) := by unfold finP; exact (if_neg c1).trans (if_neg c2)
        have x2 : finS u tl tc ta S' = (S'.1, S'.2.1 + 1, S'.2.2) := by unfold finS; rw [if_neg (by omega), if_pos (by omega)]
        rw [x1, x2]
        exact Or.inr ⟨a1, a2, a3, by show S.2.1 + 1 = S'.2.1 + 1; omega, a5⟩
theorem foldC_tr {F F' : Int → ST → ST} (hF : ∀ c S S', TRS S S' → TRS (F c S) (F' c S')) : ∀ (k : Nat) (S S' : ST), TRS S S' → TRS (foldC F k S) (foldC F' k S') := by
  intro k
  induction k with
  | zero => intro S S' q; exact q
  | succ k ih => intro S S' q; exact hF _ _ _ (ih S S' q)
theorem seek_eq : ∀ d : Nat, d ≤ 4 → ∀ (rs rs' : Int → Int) (i : Int) (tl tc ta : Int → Int) (S S' : ST), (∀ j : Int, i ≤ j → j < N → rs' j = rs (h + j)) → i ≤ N → TRS S S' → TRS (seekP (h + N) o d rs (h + i) tl tc ta S) (seekF N o h d rs' i tl tc ta S') := by
  intro d
  induction d with
  | zero =>
    intro _ rs rs' i tl tc ta S S' hr hi hT
    have e := skip_sh (h := h) (rs := rs) (rs' := rs') (N - i).toNat i (fun j q1 q2 => hr j q1 (by omega))
    unfold seekP seekF
    rw [show (h + N - (h + i)).toNat = (N - i).toNat by omega, e]
    by_cases c : skipN rs' i (N - i).toNat = N
    · rw [if_pos (by omega), if_pos c]; exact TRS.fin ⟨by decide, by decide⟩ hT
    · rw [if_neg (by omega), if_neg c]; exact hT
  | succ d ih =>
    intro hd rs rs' i tl tc ta S S' hr hi hT
    have e := skip_sh (h := h) (rs := rs) (rs' := rs') (N - i).toNat i (fun j q1 q2 => hr j q1 (by omega))
    have hb := skipN_b (rs := rs') (N - i).toNat i
    unfold seekP seekF
    rw [show (h + N - (h + i)).toNat = (N - i).toNat by omega, e]
    obtain ⟨k, hk⟩ : ∃ y : Int, y = skipN rs' i (N - i).toNat := ⟨_, rfl⟩
    rw [← hk] at hb ⊢
    by_cases c : k = N
    · rw [if_pos (by omega), if_pos c]; exact TRS.fin ⟨by omega, by omega⟩ hT
    · rw [if_neg (by omega), if_neg c]
      have hrk : rs' k = rs (h + k) := hr k hb.1 (by omega)
      by_cases c2 : S.1 ≤ 3 - d
      · rw [if_pos c2]
        rcases hT with ⟨a1, a2⟩ | ⟨a1, a2, a3, a4, a5⟩
        · omega
        · rw [foldC_id (P := fun S => S.1 ≠ -1 ∧ S.1 < 4 - (d : Int)) (fun c S hS => seekF_id d (by omega) _ _ _ _ _ S hS.1 hS.2) _ S' ⟨by omega, by omega⟩]
          exact Or.inr ⟨a1, a2, a3, a4, a5⟩
      · rw [if_neg c2]
        refine foldC_tr (fun c S S' q => ?_) _ _ _ hT
        rw [hrk, Int.add_assoc]
        refine ih (by omega) _ _ _ _ _ _ _ _ (fun j q1 q2 => ?_) (by omega) q
        unfold markJ
        rw [hr j (by omega) q2, show h + j - (h + k) = j - k by omega]
        by_cases w : k ≤ j ∧ j < k + (tmC o c + 1) ∧ j < N
        · have w2 : h + k ≤ h + j ∧ h + j < h + k + (tmC o c + 1) ∧ h + j < h + N := by omega
          rw [if_pos w, if_pos w2]
        · have w2 : ¬ (h + k ≤ h + j ∧ h + j < h + k + (tmC o c + 1) ∧ h + j < h + N) := by omega
          rw [if_neg w, if_neg w2]
theorem seekF_i {i' : Int} {S : ST} (e : skipN rs i (N - i).toNat = skipN rs i' (N - i').toNat) : ∀ d : Nat, seekF N o h d rs i tl tc ta S = seekF N o h d rs i' tl tc ta S := by
  intro d
  cases d with
  | zero => unfold seekF; rw [e]
  | succ d => unfold seekF; rw [e]
theorem difF_b (f : Int → Int) (x : Int) : difF f x 2 3 = bdiff f 2 x ∧ difF f x 3 4 = bdiff f 3 x ∧ difF f x 4 5 = bdiff f 4 x ∧ difF f x 5 6 = bdiff f 5 x := by
  have c2 : chN 2 0 = 1 ∧ chN 2 1 = 2 ∧ chN 2 2 = 1 := by decide
  have c3 : chN 3 0 = 1 ∧ chN 3 1 = 3 ∧ chN 3 2 = 3 ∧ chN 3 3 = 1 := by decide
  have c4 : chN 4 0 = 1 ∧ chN 4 1 = 4 ∧ chN 4 2 = 6 ∧ chN 4 3 = 4 ∧ chN 4 4 = 1 := by decide
  have c5 : chN 5 0 = 1 ∧ chN 5 1 = 5 ∧ chN 5 2 = 10 ∧ chN 5 3 = 10 ∧ chN 5 4 = 5 ∧ chN 5 5 = 1 := by decide
  have e2 : x - 1 - 1 = x - 2 := by omega
  have e3 : x - 2 - 1 = x - 3 := by omega
  have e4 : x - 3 - 1 = x - 4 := by omega
  have e5 : x - 4 - 1 = x - 5 := by omega
  simp only [difF, bdiff, e2, e3, e4, e5, c2, c3, c4, c5]
  refine ⟨?_, ?_, ?_, ?_⟩ <;> (simp; omega)
theorem numD_bd {mem : Int → Int → Int} {p b q : Int} (hp : PG mem p) (hS : SLS mem) (hb : 0 ≤ b) (h1 : b * mem 52 p + mem 49 p + 1 ≤ x) (h2 : x < b * mem 52 p + mem 52 p) : -4000000000 ≤ difF (fun i => numQ mem p i q) x (mem 49 p + 1) (mem 49 p + 1 + 1).toNat ∧ difF (fun i => numQ mem p i q) x (mem 49 p + 1) (mem 49 p + 1 + 1).toNat ≤ 4000000000 := by
  have hA := adS_bd hS p q
  obtain ⟨-, -, -, -, -, -, -, -, o1, o2, -, -, -, -, m1, m2, -⟩ := hp
  obtain ⟨s, hs⟩ : ∃ y : Int, y = b * mem 52 p := ⟨_, rfl⟩
  obtain ⟨o, ho⟩ : ∃ y : Int, y = mem 49 p := ⟨_, rfl⟩
  obtain ⟨m, hm⟩ : ∃ y : Int, y = mem 52 p := ⟨_, rfl⟩
  have hsm : s % m = 0 := by rw [hs, hm]; exact Int.mul_emod_left _ _
  have hs0 : 0 ≤ s := by rw [hs]; exact Int.mul_nonneg hb (by omega)
  have hf : (fun i => numQ mem p i q) = numF (nearP mem p) (adS mem p q) o m := by funext i; rw [ho, hm]; rfl
  rw [hf]
  rw [← hs, ← ho] at h1
  rw [← hs, ← hm] at h2
  rw [← ho] at o1 o2 m1 ⊢
  rw [← hm] at m1 m2
  have hmd : ∀ n : Int, s ≤ n → n ≤ x → n % m = n - s := fun n u1 u2 => blk_mod (by omega) hsm u1 (by omega)
  have key := dif_bd (f := numF (nearP mem p) (adS mem p q) o m) (C := fun j n => rowF (nearP mem p) (adS mem p q) o m n j) (s := s) (x := x) (G := 60000000) (O := o.toNat) (fun n u1 u2 => by
      have e := hmd n u1 u2
      by_cases c : n % m ≤ o
      · rw [numF_piv (by omega) (by omega) (by omega) c, rowF_piv (by omega) (by omega) (by omega) c]
        show -60000000 ≤ nearP mem p n - nearP mem p n ∧ nearP mem p n - nearP mem p n ≤ 60000000
        omega
      · rw [numF_made (by omega) (by omega) (by omega) c]
        have := hA (5 * n + 4)
        show -60000000 ≤ rowF (nearP mem p) (adS mem p q) o m n 0 + _ - rowF (nearP mem p) (adS mem p q) o m n 0 ∧ rowF (nearP mem p) (adS mem p q) o m n 0 + _ - rowF (nearP mem p) (adS mem p q) o m n 0 ≤ 60000000
        omega)
    (fun j n u0 u1 u2 => by
      have e := hmd n (by omega) u2
      have e' := hmd (n - 1) (by omega) (by omega)
      show -60000000 ≤ rowF (nearP mem p) (adS mem p q) o m n (j : Int) - rowF (nearP mem p) (adS mem p q) o m (n - 1) (j : Int) - rowF (nearP mem p) (adS mem p q) o m n ((j + 1 : Nat) : Int) ∧ rowF (nearP mem p) (adS mem p q) o m n (j : Int) - rowF (nearP mem p) (adS mem p q) o m (n - 1) (j : Int) - rowF (nearP mem p) (adS mem p q) o m n ((j + 1 : Nat) : Int) ≤ 60000000
      by_cases c : n % m ≤ o
      · rw [rowF_piv (by omega) (by omega) (by omega) c, rowF_piv (by omega) (by omega) (by omega) (by omega), rowF_piv (by omega) (by omega) (by omega) c, show (((j : Nat) : Int)).toNat = j by omega, show (((j + 1 : Nat)) : Int).toNat = j + 1 by omega]
        show -60000000 ≤ bdiff (nearP mem p) j n - bdiff (nearP mem p) j (n - 1) - (bdiff (nearP mem p) j n - bdiff (nearP mem p) j (n - 1)) ∧ bdiff (nearP mem p) j n - bdiff (nearP mem p) j (n - 1) - (bdiff (nearP mem p) j n - bdiff (nearP mem p) j (n - 1)) ≤ 60000000
        omega
      · rw [rowF_step (by omega) (by omega) (by omega) (by omega) c, show ((j + 1 : Nat) : Int) = (j : Int) + 1 by omega]
        have := hA (5 * n + j)
        omega) o.toNat (Nat.le_refl _)
  have k1 := key x (by omega) (by omega)
  have k2 := key (x - 1) (by omega) (by omega)
  have k3 := rowF_top (nr := nearP mem p) (ad := adS mem p q) (o := o) (m := m) (n := x) (by omega) (by omega) (by omega) (by rw [hmd x (by omega) (by omega)]; omega)
  have k4 : bdiff (numF (nearP mem p) (adS mem p q) o m) (o.toNat + 1) x = bdiff (numF (nearP mem p) (adS mem p q) o m) o.toNat x - bdiff (numF (nearP mem p) (adS mem p q) o m) o.toNat (x - 1) := rfl
  have k5 : dB 60000000 o.toNat ≤ 1860000000 := by
    have : ∀ o : Fin 5, dB 60000000 o.val ≤ 1860000000 := by decide
    exact this ⟨o.toNat, by omega⟩
  have k6 : difF (numF (nearP mem p) (adS mem p q) o m) x (o + 1) (o + 1 + 1).toNat = bdiff (numF (nearP mem p) (adS mem p q) o m) (o.toNat + 1) x := by
    have hb4 := difF_b (numF (nearP mem p) (adS mem p q) o m) x
    rcases (show o = 1 ∨ o = 2 ∨ o = 3 ∨ o = 4 by omega) with u | u | u | u <;> rw [u] at hb4 ⊢
    · exact hb4.1
    · exact hb4.2.1
    · exact hb4.2.2.1
    · exact hb4.2.2.2
  rw [show ((o.toNat : Nat) : Int) = o by omega] at k1 k2
  rw [k6, k4]
  have k1' : -dB 60000000 o.toNat ≤ bdiff (numF (nearP mem p) (adS mem p q) o m) o.toNat x - rowF (nearP mem p) (adS mem p q) o m x o ∧ bdiff (numF (nearP mem p) (adS mem p q) o m) o.toNat x - rowF (nearP mem p) (adS mem p q) o m x o ≤ dB 60000000 o.toNat := k1
  have k2' : -dB 60000000 o.toNat ≤ bdiff (numF (nearP mem p) (adS mem p q) o m) o.toNat (x - 1) - rowF (nearP mem p) (adS mem p q) o m (x - 1) o ∧ bdiff (numF (nearP mem p) (adS mem p q) o m) o.toNat (x - 1) - rowF (nearP mem p) (adS mem p q) o m (x - 1) o ≤ dB 60000000 o.toNat := k2
  omega
end

end
