section PRESSES
/-! a page set anew: its press slips go, the others stay in their order -/
theorem cm_pv {p P N J : Int} (m : Int → Int → Int) : ∀ k : Nat, pvN (cmM p k m).2 P N J (cmM p k m).1.toNat = if P = p then 0 else pvN m P N J k := by
  intro k
  induction k with
  | zero => show (0 : Int) = if P = p then 0 else 0; split <;> rfl
  | succ k ih =>
    obtain ⟨f1, f2, f3⟩ := cmM_fr p m k
    have e84 := f3 84 k (by omega)
    have e85 := f3 85 k (by omega)
    have e86 := f3 86 k (by omega)
    have e87 := f3 87 k (by omega)
    have es : pvN m P N J (k + 1) = if m 84 k = P ∧ m 85 k = N ∧ m 86 k = J then m 87 k + 1 else pvN m P N J k := rfl
    have ec := cmM_s (p := p) (m := m) (i := (k : Int)) (by omega)
    rw [show ((k : Int) + 1).toNat = k + 1 by omega, show ((k : Int)).toNat = k by omega, e84, e85, e86, e87] at ec
    by_cases c : m 84 k = p
    · rw [ec, if_pos c, ih, es]
      by_cases w : P = p
      · rw [if_pos w, if_pos w]
      · rw [if_neg w, if_neg w, if_neg (fun u => w (u.1.symm.trans c))]
    · rw [ec, if_neg c]
      show pvN (set2 (set2 (set2 (set2 (cmM p k m).2 84 (cmM p k m).1 (m 84 k)) 85 (cmM p k m).1 (m 85 k)) 86 (cmM p k m).1 (m 86 k)) 87 (cmM p k m).1 (m 87 k)) P N J ((cmM p k m).1 + 1).toNat = _
      obtain ⟨r, hr⟩ : ∃ y, y = cmM p k m := ⟨_, rfl⟩
      rw [← hr] at f1 f2 f3 ih ⊢
      rw [show (r.1 + 1).toNat = r.1.toNat + 1 by omega]
      have e2 : pvN (set2 (set2 (set2 (set2 r.2 84 r.1 (m 84 k)) 85 r.1 (m 85 k)) 86 r.1 (m 86 k)) 87 r.1 (m 87 k)) P N J r.1.toNat = pvN r.2 P N J r.1.toNat := pvN_cg _ (fun s q1 q2 => ⟨by rw [s2_a (by decide), s2_a (by decide), s2_a (by decide), s2_k (by omega)], by rw [s2_a (by decide), s2_a (by decide), s2_k (by omega), s2_a (by decide)], by rw [s2_a (by decide), s2_k (by omega), s2_a (by decide), s2_a (by decide)], by rw [s2_k (by omega), s2_a (by decide), s2_a (by decide), s2_a (by decide)]⟩)
      have e3 : ((r.1.toNat : Nat) : Int) = r.1 := by omega
      unfold pvN
      rw [e2, ih, e3, s2_a (by decide), s2_a (by decide), s2_a (by decide), s2_s, s2_a (by decide), s2_a (by decide), s2_s, s2_a (by decide), s2_s, s2_s]
      by_cases w : P = p
      · rw [if_pos w, if_pos w, if_neg (fun u => c (u.1.trans w))]
      · rw [if_neg w, if_neg w]
def cntP (m : Int → Int → Int) (p : Int) : Nat → Int
  | 0 => 0
  | k + 1 => cntP m p k + (if m 84 k = p then 1 else 0)
theorem cm_cnt {p : Int} (m : Int → Int → Int) : ∀ k : Nat, (cmM p k m).1 = k - cntP m p k := by
  intro k
  induction k with
  | zero => rfl
  | succ k ih =>
    obtain ⟨f1, f2, f3⟩ := cmM_fr p m k
    have e84 := f3 84 k (by omega)
    have ec := cmM_s (p := p) (m := m) (i := (k : Int)) (by omega)
    rw [show ((k : Int) + 1).toNat = k + 1 by omega, show ((k : Int)).toNat = k by omega, e84] at ec
    rw [ec]
    unfold cntP
    by_cases c : m 84 k = p
    · rw [if_pos c, if_pos c, ih]; omega
    · rw [if_neg c, if_neg c]
      show (cmM p k m).1 + 1 = _
      rw [ih]; omega
/-- how many places of a table are not 0 -/
def pjN (G : Int → Int → Int) (n : Int) : Nat → Int
  | 0 => 0
  | j + 1 => pjN G n j + (if G n j = 0 then 0 else 1)
def prG (G : Int → Int → Int) : Nat → Int
  | 0 => 0
  | n + 1 => prG G n + pjN G n 13
theorem pjN_cg {G G' : Int → Int → Int} {n : Int} : ∀ k : Nat, (∀ j : Int, 0 ≤ j → j < k → G' n j = G n j) → pjN G' n k = pjN G n k := by
  intro k
  induction k with
  | zero => intro _; rfl
  | succ k ih => intro h; unfold pjN; rw [ih (fun j q1 q2 => h j q1 (by omega)), h k (by omega) (by omega)]
theorem prG_cg {G G' : Int → Int → Int} : ∀ L : Nat, (∀ n j : Int, 0 ≤ n → n < L → 0 ≤ j → j < 13 → G' n j = G n j) → prG G' L = prG G L := by
  intro L
  induction L with
  | zero => intro _; rfl
  | succ L ih => intro h; unfold prG; rw [ih (fun n j q1 q2 => h n j q1 (by omega)), pjN_cg 13 (fun j q1 q2 => h L j (by omega) (by omega) q1 q2)]
theorem pjN_up {G G' : Int → Int → Int} {n j0 : Int} (h0 : 0 ≤ j0) (hz : G n j0 = 0) (hn : G' n j0 ≠ 0) (h : ∀ j : Int, j ≠ j0 → G' n j = G n j) : ∀ k : Nat, pjN G' n k = pjN G n k + (if j0 < k then 1 else 0) := by
  intro k
  induction k with
  | zero => rw [if_neg (by omega)]; rfl
  | succ k ih =>
    unfold pjN
    rw [ih]
    by_cases c : (k : Int) = j0
    · rw [c, if_neg hn, if_pos hz]
      (repeat' split) <;> omega
    · rw [h k c]
      by_cases u : j0 < k
      · rw [if_pos u, if_pos (show j0 < ((k + 1 : Nat) : Int) by omega)]; omega
      · rw [if_neg u, if_neg (show ¬ j0 < ((k + 1 : Nat) : Int) by omega)]; omega
theorem prG_up {G G' : Int → Int → Int} {n0 j0 : Int} (hn0 : 0 ≤ n0) (h0 : 0 ≤ j0 ∧ j0 < 13) (hz : G n0 j0 = 0) (hn : G' n0 j0 ≠ 0) (h : ∀ n j : Int, ¬ (n = n0 ∧ j = j0) → G' n j = G n j) : ∀ L : Nat, prG G' L = prG G L + (if n0 < L then 1 else 0) := by
  intro L
  induction L with
  | zero => rw [if_neg (by omega)]; rfl
  | succ L ih =>
    unfold prG
    rw [ih]
    by_cases c : (L : Int) = n0
    · rw [c, pjN_up h0.1 hz hn (fun j q => h n0 j (fun w => q w.2)) 13]
      (repeat' split) <;> omega
    · rw [pjN_cg (G := G) (G' := G') 13 (fun j _ _ => h L j (fun w => c w.1))]
      by_cases u : n0 < L
      · rw [if_pos u, if_pos (show n0 < ((L + 1 : Nat) : Int) by omega)]; omega
      · rw [if_neg u, if_neg (show ¬ n0 < ((L + 1 : Nat) : Int) by omega)]; omega
theorem pcR_prG (row : Int → Int) : ∀ L : Nat, pcR row L = prG (fun n j => nibG (row n) j) L := by
  have hJ : ∀ (n : Int) (k : Nat), pcJ (row n) k = pjN (fun n j => nibG (row n) j) n k := fun n k => by
    induction k with
    | zero => rfl
    | succ k ih => unfold pcJ pjN; rw [ih]
  intro L
  induction L with
  | zero => rfl
  | succ L ih => unfold pcR prG; rw [ih, hJ]
theorem pv_0 {m : Int → Int → Int} {p n j : Int} : ∀ k : Nat, (∀ i : Int, 0 ≤ i → i < k → ¬ (m 84 i = p ∧ m 85 i = n ∧ m 86 i = j)) → pvN m p n j k = 0 := by
  intro k
  induction k with
  | zero => intro _; rfl
  | succ k ih => intro h; unfold pvN; rw [if_neg (h k (by omega) (by omega))]; exact ih (fun i q1 q2 => h i q1 (by omega))
theorem prG_cnt {m : Int → Int → Int} {p : Int} {L : Nat} (hR : PRS m) (hL : ∀ i : Int, 0 ≤ i → i < m 35 72 → m 84 i = p → m 85 i < L) (hd : ∀ i k : Int, 0 ≤ i → i < k → k < m 35 72 → ¬ (m 84 i = m 84 k ∧ m 85 i = m 85 k ∧ m 86 i = m 86 k)) : ∀ k : Nat, (k : Int) ≤ m 35 72 → prG (fun n j => pvN m p n j k) L = cntP m p k := by
  intro k
  induction k with
  | zero =>
    intro _
    have hJ : ∀ (n : Int) (t : Nat), pjN (fun n j => pvN m p n j 0) n t = 0 := fun n t => by
      induction t with
      | zero => rfl
      | succ t ih => unfold pjN; rw [ih]; rfl
    have : ∀ L : Nat, prG (fun n j => pvN m p n j 0) L = 0 := fun L => by
      induction L with
      | zero => rfl
      | succ L ih => unfold prG; rw [ih, hJ]; rfl
    exact this L
  | succ k ih =>
    intro hk
    have g := hR.2.2 k (by omega) (by omega)
    have i2 := ih (by omega)
    have es : ∀ n j : Int, pvN m p n j (k + 1) = if m 84 k = p ∧ m 85 k = n ∧ m 86 k = j then m 87 k + 1 else pvN m p n j k := fun _ _ => rfl
    unfold cntP
    by_cases c : m 84 k = p
    · rw [if_pos c, ← i2, prG_up (G := fun n j => pvN m p n j k) (G' := fun n j => pvN m p n j (k + 1)) (n0 := m 85 k) (j0 := m 86 k) (by omega) (by omega) ?_ ?_ ?_ L, if_pos (hL k (by omega) (by omega) c)]
      · exact pv_0 k (fun i q1 q2 u => hd i k q1 q2 (by omega) ⟨u.1.trans c.symm, u.2.1, u.2.2⟩)
      · show pvN m p (m 85 k) (m 86 k) (k + 1) ≠ 0
        rw [es, if_pos ⟨c, rfl, rfl⟩]; omega
      · intro n j w
        show pvN m p n j (k + 1) = _
        rw [es, if_neg (fun u => w ⟨u.2.1.symm, u.2.2.symm⟩)]
    · rw [if_neg c, Int.add_zero, ← i2]
      exact prG_cg L (fun n j _ _ _ _ => by show pvN m p n j (k + 1) = _; rw [es, if_neg (fun u => c u.1)])
end PRESSES
