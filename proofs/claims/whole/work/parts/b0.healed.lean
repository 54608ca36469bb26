section
section
variable {mem m : Int → Int → Int} {p q b e n k : Int}
/-- the first line with a slip known, of a block; its end without one -/
def fsN (mem : Int → Int → Int) (p q b e : Int) : Nat → Int
  | 0 => e
  | k + 1 => if mem 63 k = p ∧ cntS mem k q ∧ mem 64 k / mem 52 p = b then (if mem 64 k < fsN mem p q b e k then mem 64 k else fsN mem p q b e k) else fsN mem p q b e k
theorem fsN_s (h : 0 ≤ k) : fsN mem p q b e (k + 1).toNat = if mem 63 k = p ∧ cntS mem k q ∧ mem 64 k / mem 52 p = b then (if mem 64 k < fsN mem p q b e k.toNat then mem 64 k else fsN mem p q b e k.toNat) else fsN mem p q b e k.toNat := by
  rw [show (k + 1).toNat = k.toNat + 1 by omega, fsN, show ((k.toNat : Nat) : Int) = k by omega]
theorem fsN_p : ∀ k : Nat, fsN mem p q b e k ≤ e ∧ (∀ s : Int, 0 ≤ s → s < k → mem 63 s = p → cntS mem s q → mem 64 s / mem 52 p = b → fsN mem p q b e k ≤ mem 64 s) ∧ (fsN mem p q b e k = e ∨ ∃ s : Int, 0 ≤ s ∧ s < k ∧ mem 63 s = p ∧ cntS mem s q ∧ mem 64 s / mem 52 p = b ∧ fsN mem p q b e k = mem 64 s) := by
  intro k
  induction k with
  | zero => exact ⟨Int.le_refl _, fun s h1 h2 => by omega, Or.inl rfl⟩
  | succ k ih =>
    obtain ⟨i1, i2, i3⟩ := ih
    unfold fsN
    by_cases c : mem 63 k = p ∧ cntS mem k q ∧ mem 64 k / mem 52 p = b
    · rw [if_pos c]
      by_cases d : mem 64 k < fsN mem p q b e k
      · rw [if_pos d]
        refine ⟨by omega, fun s h1 h2 h3 h4 h5 => ?_, Or.inr ⟨k, by omega, by omega, c.1, c.2.1, c.2.2, rfl⟩⟩
        by_cases u : s = k
        · rw [u]; exact Int.le_refl _
        · have := i2 s h1 (by omega) h3 h4 h5; omega
      · rw [if_neg d]
        refine ⟨i1, fun s h1 h2 h3 h4 h5 => ?_, i3.imp id (fun ⟨s, x1, x2, x3⟩ => ⟨s, x1, by omega, x3⟩)⟩
        by_cases u : s = k
        · rw [u]; omega
        · exact i2 s h1 (by omega) h3 h4 h5
    · rw [if_neg c]
      refine ⟨i1, fun s h1 h2 h3 h4 h5 => ?_, i3.imp id (fun ⟨s, x1, x2, x3⟩ => ⟨s, x1, by omega, x3⟩)⟩
      by_cases u : s = k
      · rw [u] at h3 h4 h5; exact absurd ⟨h3, h4, h5⟩ c
      · exact i2 s h1 (by omega) h3 h4 h5
theorem sxN_iff {v : Int} : ∀ k : Nat, sxN mem p q n v k ≠ 0 ↔ v ≠ 0 ∨ ∃ s : Int, 0 ≤ s ∧ s < k ∧ mem 63 s = p ∧ cntS mem s q ∧ mem 64 s = n := by
  intro k
  induction k with
  | zero => exact ⟨fun u => Or.inl u, fun u => u.elim id (fun ⟨s, x1, x2, _⟩ => by omega)⟩
  | succ k ih =>
    unfold sxN
    by_cases c : sxN mem p q n v k ≠ 0 ∨ (mem 63 k = p ∧ mem 64 k = n ∧ cntS mem k q)
    · rw [if_pos c]
      refine ⟨fun _ => ?_, fun _ => by decide⟩
      rcases c with c | c
      · exact (ih.1 c).imp id (fun ⟨s, x1, x2, x3⟩ => ⟨s, x1, by omega, x3⟩)
      · exact Or.inr ⟨k, by omega, by omega, c.1, c.2.2, c.2.1⟩
    · rw [if_neg c]
      refine ⟨fun u => absurd rfl u, fun u => ?_⟩
      exfalso
      rcases u with u | ⟨s, x1, x2, x3, x4, x5⟩
      · exact c (Or.inl (ih.2 (Or.inl u)))
      · by_cases w : s = k
        · rw [w] at x3 x4 x5; exact c (Or.inr ⟨x3, x5, x4⟩)
        · exact c (Or.inl (ih.2 (Or.inr ⟨s, x1, by omega, x3, x4, x5⟩)))
theorem hxN_iff (hm : 1 ≤ mem 52 p) (hN : 0 ≤ mem 35 45) : ∀ n : Nat, hxN mem p q (n + 1) ≠ 0 ↔ ∃ s : Int, 0 ≤ s ∧ s < mem 35 45 ∧ mem 63 s = p ∧ cntS mem s q ∧ n - n % mem 52 p ≤ mem 64 s ∧ mem 64 s ≤ n := by
  intro n
  induction n with
  | zero =>
    have e0 : (0 : Int) % mem 52 p = 0 := Int.zero_emod _
    rw [show hxN mem p q (0 + 1) = sxN mem p q 0 (if hxN mem p q 0 ≠ 0 ∧ (0 : Int) % mem 52 p > 0 then 1 else 0) (mem 35 45).toNat from rfl, sxN_iff]
    show _ ↔ ∃ s : Int, 0 ≤ s ∧ s < mem 35 45 ∧ mem 63 s = p ∧ cntS mem s q ∧ (0 : Int) - 0 % mem 52 p ≤ mem 64 s ∧ mem 64 s ≤ 0
    refine ⟨fun u => ?_, fun ⟨s, x1, x2, x3, x4, x5, x6⟩ => Or.inr ⟨s, x1, by omega, x3, x4, by omega⟩⟩
    rcases u with u | ⟨s, x1, x2, x3, x4, x5⟩
    · exfalso; rw [if_neg (fun w => by have := w.2; omega)] at u; exact u rfl
    · exact ⟨s, x1, by omega, x3, x4, by omega, by omega⟩
  | succ n ih =>
    have h2 := Int.emod_nonneg (((n + 1 : Nat)) : Int) (show mem 52 p ≠ 0 by omega)
    have h3 := Int.emod_lt_of_pos (((n + 1 : Nat)) : Int) (show 0 < mem 52 p by omega)
    have h4 := Int.emod_nonneg (n : Int) (show mem 52 p ≠ 0 by omega)
    have h5 := Int.emod_lt_of_pos (n : Int) (show 0 < mem 52 p by omega)
    have hd := Int.mul_ediv_add_emod (n : Int) (mem 52 p)
    have hst : 0 < (((n + 1 : Nat)) : Int) % mem 52 p → (((n + 1 : Nat)) : Int) % mem 52 p = (n : Int) % mem 52 p + 1 := fun u => by
      by_cases w : (n : Int) % mem 52 p + 1 < mem 52 p
      · exact ((Int.ediv_emod_unique (a := ((n + 1 : Nat) : Int)) (b := mem 52 p) (q := (n : Int) / mem 52 p) (r := (n : Int) % mem 52 p + 1) (by omega)).2 ⟨by omega, by omega, w⟩).2
      · have h6 : mem 52 p * ((n : Int) / mem 52 p + 1) = mem 52 p * ((n : Int) / mem 52 p) + mem 52 p := by rw [Int.mul_add, Int.mul_one]
        have := ((Int.ediv_emod_unique (a := ((n + 1 : Nat) : Int)) (b := mem 52 p) (q := (n : Int) / mem 52 p + 1) (r := 0) (by omega)).2 ⟨by omega, by omega, by omega⟩).2
        omega
    rw [show hxN mem p q (n + 1 + 1) = sxN mem p q ((n + 1 : Nat) : Int) (if hxN mem p q (n + 1) ≠ 0 ∧ ((n + 1 : Nat) : Int) % mem 52 p > 0 then 1 else 0) (mem 35 45).toNat from rfl, sxN_iff]
    refine ⟨fun u => ?_, fun ⟨s, x1, x2, x3, x4, x5, x6⟩ => ?_⟩
    · rcases u with u | ⟨s, x1, x2, x3, x4, x5⟩
      · by_cases c : hxN mem p q (n + 1) ≠ 0 ∧ ((n + 1 : Nat) : Int) % mem 52 p > 0
        · obtain ⟨s, x1, x2, x3, x4, x5, x6⟩ := ih.1 c.1
          have := hst c.2
          exact ⟨s, x1, x2, x3, x4, by omega, by omega⟩
        · rw [if_neg c] at u; exact absurd rfl u
      · exact ⟨s, x1, by omega, x3, x4, by omega, by omega⟩
    · by_cases w : mem 64 s = ((n + 1 : Nat) : Int)
      · exact Or.inr ⟨s, x1, by omega, x3, x4, w⟩
      · refine Or.inl ?_
        have hp : 0 < (((n + 1 : Nat)) : Int) % mem 52 p := by omega
        have := hst hp
        rw [if_pos ⟨ih.2 ⟨s, x1, x2, x3, x4, by omega, by omega⟩, hp⟩]
        decide
/-- in a block: nothing before the first slip, every line of the same figures behind it -/
theorem he_blk (hp : PG mem p) (hS : SLS mem) {S E F : Int} (hb : 0 ≤ b) (hSb : S = b * mem 52 p) (hE : S ≤ E ∧ E ≤ S + mem 52 p) (hF : F = fsN mem p q b E (mem 35 45).toNat) : (S ≤ F ∧ F ≤ E) ∧ (∀ n : Int, S ≤ n → n < F → heN mem p q (n + 1).toNat = heN mem p q n.toNat) ∧ ∀ n : Int, F ≤ n → n < E → heN mem p q (n + 1).toNat = heN mem p q n.toNat + (if wL (numQ mem p n q) = wL (numT mem p n) then 1 else 0) := by
  have hN := hS.1
  obtain ⟨f1, f2, f3⟩ := fsN_p (mem := mem) (p := p) (q := q) (b := b) (e := E) (mem 35 45).toNat
  rw [← hF] at f1 f2 f3
  have hS0 : 0 ≤ S := by rw [hSb]; exact Int.mul_nonneg hb (by omega)
  have hSm : S % mem 52 p = 0 := by rw [hSb]; exact Int.mul_emod_left _ _
  have hdv : ∀ x : Int, S ≤ x → x < S + mem 52 p → x / mem 52 p = b ∧ x % mem 52 p = x - S := fun x u1 u2 => (Int.ediv_emod_unique (a := x) (b := mem 52 p) (q := b) (r := x - S) (by omega)).2 ⟨by rw [hSb, Int.mul_comm]; omega, by omega, by omega⟩
  have hin : ∀ x : Int, x / mem 52 p = b → S ≤ x ∧ x < S + mem 52 p := fun x u => by
    have h1 := Int.mul_ediv_add_emod x (mem 52 p)
    have h2 := Int.emod_nonneg x (show mem 52 p ≠ 0 by omega)
    have h3 := Int.emod_lt_of_pos x (show 0 < mem 52 p by omega)
    rw [u, Int.mul_comm, ← hSb] at h1
    omega
  have hSF : S ≤ F := by
    rcases f3 with u | ⟨s, x1, x2, x3, x4, x5, x6⟩
    · omega
    · rw [x6]; exact (hin _ x5).1
  refine ⟨⟨hSF, f1⟩, fun n u1 u2 => ?_, fun n u1 u2 => ?_⟩
  · rw [heN_s (by omega), if_neg (fun w => ?_), Int.add_zero]
    have w1 := w.1
    rw [show (n + 1).toNat = n.toNat + 1 by omega, hxN_iff (by omega) hN] at w1
    obtain ⟨s, x1, x2, x3, x4, x5, x6⟩ := w1
    rw [show ((n.toNat : Nat) : Int) = n by omega] at x5 x6
    have y := hdv n u1 (by omega)
    have z := f2 s x1 (by omega) x3 x4 (hdv _ (by omega) (by omega)).1
    omega
  · rw [heN_s (by omega)]
    have hx : hxN mem p q (n + 1).toNat ≠ 0 ∧ n % mem 52 p > mem 49 p := by
      have y := hdv n (by omega) (by omega)
      rcases f3 with u | ⟨s, x1, x2, x3, x4, x5, x6⟩
      · omega
      · have g := hS.2.2 s x1 (by omega)
        have g5 := g.2.2.2.2.1
        rw [x3] at g5
        have y2 := hdv (mem 64 s) (by omega) (by omega)
        refine ⟨?_, by omega⟩
        rw [show (n + 1).toNat = n.toNat + 1 by omega, hxN_iff (by omega) hN]
        rw [show ((n.toNat : Nat) : Int) = n by omega]
        exact ⟨s, x1, by omega, x3, x4, by omega, by omega⟩
    by_cases w : wL (numQ mem p n q) = wL (numT mem p n)
    · rw [if_pos w, if_pos ⟨hx.1, hx.2, w⟩]
    · rw [if_neg w, if_neg (fun u => w u.2.2)]
theorem fsN_cg (h : SCF mem m) (k : Nat) : fsN m p q b e k = fsN mem p q b e k := by
  induction k with
  | zero => rfl
  | succ k ih => unfold fsN; rw [ih, h 63 k (by decide) (by decide) (by decide), h 64 k (by decide) (by decide) (by decide), h 52 p (by decide) (by decide) (by decide)]; unfold cntS; rw [h 67 k (by decide) (by decide) (by decide), h 68 k (by decide) (by decide) (by decide)]
def stV (L m b : Int) : Int := if b * m < L then b * m else L
theorem he_skip {S F : Int} (h : ∀ n : Int, S ≤ n → n < F → heN mem p q (n + 1).toNat = heN mem p q n.toNat) : ∀ k : Nat, S + k ≤ F → heN mem p q (S + k).toNat = heN mem p q S.toNat := by
  intro k
  induction k with
  | zero => intro _; rw [show S + ((0 : Nat) : Int) = S by omega]
  | succ k ih => intro hk; rw [← ih (by omega), show S + ((k + 1 : Nat) : Int) = S + k + 1 by omega]; exact h _ (by omega) (by omega)
theorem he_to {S F : Int} (hS : S ≤ F) (h : ∀ n : Int, S ≤ n → n < F → heN mem p q (n + 1).toNat = heN mem p q n.toNat) : heN mem p q F.toNat = heN mem p q S.toNat := by
  have := he_skip h (F - S).toNat (by omega)
  rw [show S + (((F - S).toNat : Nat) : Int) = F by omega] at this
  exact this
theorem stV_in {L m : Int} (hm : 1 ≤ m) (hL : 1 ≤ L) (hb : 0 ≤ b ∧ b < (L - 1) / m + 1) : stV L m b = b * m ∧ b * m < L ∧ b * m ≤ stV L m (b + 1) ∧ stV L m (b + 1) ≤ b * m + m ∧ stV L m (b + 1) ≤ L ∧ 0 ≤ b * m := by
  have h1 := Int.mul_ediv_add_emod (L - 1) m
  have h2 := Int.emod_nonneg (L - 1) (show m ≠ 0 by omega)
  have h3 : b * m ≤ (L - 1) / m * m := Int.mul_le_mul_of_nonneg_right (by omega) (by omega)
  have h4 := Int.mul_nonneg hb.1 (show 0 ≤ m by omega)
  have h5 : (b + 1) * m = b * m + m := by rw [Int.add_mul, Int.one_mul]
  rw [Int.mul_comm ((L - 1) / m) m] at h3
  unfold stV
  rw [h5, if_pos (by omega)]
  refine ⟨rfl, by omega, ?_, ?_, ?_, h4⟩ <;> (split <;> omega)
theorem stV_end {L m : Int} (hm : 1 ≤ m) (hL : 1 ≤ L) (hb : b = (L - 1) / m + 1) : stV L m b = L := by
  have h1 := Int.mul_ediv_add_emod (L - 1) m
  have h3 := Int.emod_lt_of_pos (L - 1) (show 0 < m by omega)
  have h5 : b * m = m * ((L - 1) / m) + m := by rw [hb, Int.add_mul, Int.one_mul, Int.mul_comm]
  unfold stV
  rw [h5]
  exact if_neg (by omega)
end
set_option maxHeartbeats 4000000 in
set_option maxRecDepth 100000 in
theorem c_X11_firstSlipped {l : Launch} {g : GP} (hG : GH g) {kd : Int → Nat} {ln : Int → Int} {mem : Int → Int → Int} {sz : Nat} (hK : HK kd ln) (hR : HR mem) (p v b q : Int) (tg : Int → Int) (hI : INV kd ln mem sz tg) (hpo : PAGV kd ln mem sz tg p v) (hb : 0 ≤ b ∧ b ≤ 40) (h_p : InI p) (h_q : InI q) : MT l g yX11_firstSlipped cX11_firstSlipped 8 (some .int) 3 0 0 [(2, 3), (0, p), (2, v), (0, b), (0, q)] kd ln mem sz (pV (0, fsN mem p q b (enV mem v b) (mem 35 45).toNat) kd ln mem sz) := by
  refine MT_of hG (by decide +kernel) (Nat.le_of_ble_eq_true rfl) (fun z hF hr hn => ?_)
  obtain ⟨⟨q0, q1, q2, q3, q4, q5⟩, u0, u2, u46, u89, usz⟩ := hI.num
  have n30 : 0 ≤ mem 35 45 ∧ mem 35 45 ≤ 60 := ⟨hI.sls.1, hI.sls.2.1⟩
  obtain ⟨e30, k30, r30, b30, c30⟩ := hI.g30.ls
  have hk := hpo.at
  have hpb := hpo.pb
  have hn7 := hpo.nm.2.2.2.2.2.2.2.1
  have hpP := hpo.2.2
  have hev : 0 ≤ enV mem v b ∧ enV mem v b ≤ 40 := by (have y := Int.mul_nonneg (show 0 ≤ b + 1 by omega) (show 0 ≤ mem v 7 by omega); unfold enV; split <;> omega)
  refine jblk hF [(.aload_n 2, 1), (.iload_n 3, 1)] (by decide +kernel) (pc' := 2) (lo' := [(0, (2, 3)), (1, (0, p)), (2, (2, v)), (3, (0, b)), (4, (0, q))]) (st' := [(0, b), (2, v)]) rfl ?_
  refine jcallV hF (c_X3_endOf hG v b (by exact hk.1) (by omega) (by assumption) (by omega)) MW_X3_endOf 4 (by decide) (by first | exact hok.1 | exact hk.1 | assumption | omega) wd_962 wd_827 wd_828 (by decide +kernel) [] rfl rfl (by decide) (Nat.le_of_ble_eq_true rfl) (by decide) (kV ?_)
  refine jblk hF [(.istore 5, 2), (.iconst 0, 1), (.istore 6, 2)] (by decide +kernel) (pc' := 10) (lo' := [(6, (0, 0)), (5, (0, enV mem v b)), (0, (2, 3)), (1, (0, p)), (2, (2, v)), (3, (0, b)), (4, (0, q))]) (st' := []) rfl ?_
  have L_2 : ∀ (fu_3 : Nat) (c : Int) (i : Int), (0 ≤ i ∧ i ≤ mem 35 45) → (c = fsN mem p q b (enV mem v b) i.toNat) → (0 ≤ c ∧ c ≤ 40) →  (mem 35 45 - i).toNat < fu_3 → J z g 8 0 0 (QM z g 0 0 (pV (0, fsN mem p q b (enV mem v b) (mem 35 45).toNat) kd ln mem sz)) 10 [(0, (2, 3)), (1, (0, p)), (2, (2, v)), (3, (0, b)), (4, (0, q)), (5, (0, c)), (6, (0, i))] [] kd ln mem sz := by
    intro fu_3
    induction fu_3 with
    | zero => intro c i _ _ _ hm; omega
    | succ fu_3 ih_1 =>
      intro c i hi hc hcb hm
      refine jblk hF [(.iload 6, 2), (.aload_n 0, 1)] (by decide +kernel) (pc' := 13) (lo' := [(0, (2, 3)), (1, (0, p)), (2, (2, v)), (3, (0, b)), (4, (0, q)), (5, (0, c)), (6, (0, i))]) (st' := [(2, 3), (0, i)]) rfl ?_
      refine jget hF 12 15 2 15 rfl (by decide) (by decide) rfl wd_341 (by decide +kernel) (by exact hK.k3) ?_
      rw [HR.r3_15 hR]
      refine jcallV hF (c_Jx4a65c_size_8abf5 hG 30 (by first | assumption | omega)) MW_Jx4a65c_size_8abf5 0 (by decide) (by exact hK.k30) wd_410 wd_411 wd_412 (by decide +kernel) [(0, i)] rfl rfl (by decide) (Nat.le_of_ble_eq_true rfl) (by decide) (kV ?_)
      rw [e30]
      refine jicmp_ge hF (off := 67) 86 (by decide +kernel) (by decide) (by omega) (by omega) (fun h_4 => ?_) (fun h_4 => ?_)
      · refine jblk hF [(.iload 5, 2)] (by decide +kernel) (pc' := 88) (lo' := [(0, (2, 3)), (1, (0, p)), (2, (2, v)), (3, (0, b)), (4, (0, q)), (5, (0, c)), (6, (0, i))]) (st' := [(0, c)]) rfl ?_
        refine jiret hF hr (by decide +kernel) ?_
        exact lV (by (rw [hc, show i = mem 35 45 by omega]))
      · refine jblk hF [(.aload_n 0, 1)] (by decide +kernel) (pc' := 23) (lo' := [(0, (2, 3)), (1, (0, p)), (2, (2, v)), (3, (0, b)), (4, (0, q)), (5, (0, c)), (6, (0, i))]) (st' := [(2, 3)]) rfl ?_
        refine jget hF 12 15 2 15 rfl (by decide) (by decide) rfl wd_341 (by decide +kernel) (by exact hK.k3) ?_
        rw [HR.r3_15 hR]
        refine jblk hF [(.iload 6, 2)] (by decide +kernel) (pc' := 28) (lo' := [(0, (2, 3)), (1, (0, p)), (2, (2, v)), (3, (0, b)), (4, (0, q)), (5, (0, c)), (6, (0, i))]) (st' := [(0, i), (2, 30)]) rfl ?_
        refine jcallV hF (c_Jx4a65c_get_915e3 hG 30 i (by first | assumption | omega) (by first | assumption | omega) (by omega)) MW_Jx4a65c_get_915e3 0 (by decide) (by exact hK.k30) wd_498 wd_499 wd_500 (by decide +kernel) [] rfl rfl (by decide) (Nat.le_of_ble_eq_true rfl) (by decide) (kV ?_)
        obtain ⟨sl, hsl⟩ : ∃ y : Int, y = mem (mem 30 1) i := ⟨_, rfl⟩
        have hob := hI.slp (s := i) (by omega) (by omega)
        rw [← hsl]
        rw [← hsl] at hob
        have hok := hob.1
        obtain ⟨g1, g2, g3, g4, g5, g6⟩ := hob.2.1
        have hsf := hob.2.2
        have hwp := (hI.pgs).2.2 (mem 63 i) (by omega) (by omega)
        refine jcast hF 9 (by decide) wd_895 (by decide +kernel) (by first | exact hok.1 | exact hk.1 | assumption | omega) ?_
        refine jblk hF [(.astore 7, 2), (.aload 7, 2)] (by decide +kernel) (pc' := 38) (lo' := [(7, (2, sl)), (0, (2, 3)), (1, (0, p)), (2, (2, v)), (3, (0, b)), (4, (0, q)), (5, (0, c)), (6, (0, i))]) (st' := [(2, sl)]) rfl ?_
        refine jget hF 9 0 0 0 rfl (by decide) (by decide) rfl wd_902 (by decide +kernel) (by first | exact hok.1 | exact hk.1 | assumption | omega) ?_
        refine jblk hF [(.iload_n 1, 1)] (by decide +kernel) (pc' := 42) (lo' := [(7, (2, sl)), (0, (2, 3)), (1, (0, p)), (2, (2, v)), (3, (0, b)), (4, (0, q)), (5, (0, c)), (6, (0, i))]) (st' := [(0, p), (0, mem sl 0)]) rfl ?_
        refine jicmp_ne hF (off := 38) 80 (by decide +kernel) (by decide) (by omega) (by omega) (fun h_5 => ?_) (fun h_5 => ?_)
        · refine jblk hF [(.iinc 6 1, 3)] (by decide +kernel) (pc' := 83) (lo' := [(6, (0, i + 1)), (7, (2, sl)), (0, (2, 3)), (1, (0, p)), (2, (2, v)), (3, (0, b)), (4, (0, q)), (5, (0, c))]) (st' := []) rfl ?_
          refine jgoto hF (off := (-73)) 10 (by decide +kernel) (by decide) ?_
          refine jsub [2, 3, 4, 5, 6, 7, 0] rfl ?_
          refine ih_1 c (i + 1) ?_ ?_ ?_ ?_
          · omega
          · first | (rw [fsN_s (by omega), ← hc, if_neg (c := mem 63 i = p ∧ cntS mem i q ∧ mem 64 i / mem 52 p = b) (fun u => by omega)]; done) | (rw [fsN_s (by omega), ← hc, if_pos (c := mem 63 i = p ∧ cntS mem i q ∧ mem 64 i / mem 52 p = b) ⟨by omega, ⟨by omega, by omega⟩, by omega⟩, g2])
          · first | omega | (split <;> omega)
          · omega
        · refine jblk hF [(.aload 7, 2), (.iload 4, 2)] (by decide +kernel) (pc' := 49) (lo' := [(7, (2, sl)), (0, (2, 3)), (1, (0, p)), (2, (2, v)), (3, (0, b)), (4, (0, q)), (5, (0, c)), (6, (0, i))]) (st' := [(0, q), (2, sl)]) rfl ?_
          refine jcallV hF (c_X8_isKnownIn hG sl q (by first | assumption | omega) (by exact ⟨by omega, by omega⟩) (by omega)) MW_X8_isKnownIn 9 (by decide) (by first | exact hok.1 | exact hk.1 | assumption | omega) wd_944 wd_945 wd_946 (by decide +kernel) [] rfl rfl (by decide) (Nat.le_of_ble_eq_true rfl) (by decide) (kB (fun h_6 => ?_) (fun h_6 => ?_))
          · refine jif_eq hF (off := 28) 80 (by decide +kernel) (by decide) (by decide) (fun h => absurd h (by decide)) (fun _ => ?_)
            refine jblk hF [(.aload_n 2, 1), (.aload 7, 2)] (by decide +kernel) (pc' := 58) (lo' := [(7, (2, sl)), (0, (2, 3)), (1, (0, p)), (2, (2, v)), (3, (0, b)), (4, (0, q)), (5, (0, c)), (6, (0, i))]) (st' := [(2, sl), (2, v)]) rfl ?_
            refine jget hF 9 1 0 1 rfl (by decide) (by decide) rfl wd_905 (by decide +kernel) (by first | exact hok.1 | exact hk.1 | assumption | omega) ?_
            refine jcallV hF (c_X3_blockOf hG v (mem sl 1) (by exact hk.1) (by omega) (by omega) (by omega)) MW_X3_blockOf 4 (by decide) (by first | exact hok.1 | exact hk.1 | assumption | omega) wd_961 wd_790 wd_791 (by decide +kernel) [] rfl rfl (by decide) (Nat.le_of_ble_eq_true rfl) (by decide) (kV ?_)
            have hq7 : mem sl 1 / mem v 7 = mem 64 i / mem 52 p := by rw [g2, hn7]
            have hq8 := Int.ediv_nonneg (a := mem 64 i) (b := mem 52 p) (by omega) (by omega)
            have hq9 := Int.ediv_le_self (mem 52 p) (show 0 ≤ mem 64 i by omega)
            rw [hq7]
            refine jblk hF [(.iload_n 3, 1)] (by decide +kernel) (pc' := 65) (lo' := [(7, (2, sl)), (0, (2, 3)), (1, (0, p)), (2, (2, v)), (3, (0, b)), (4, (0, q)), (5, (0, c)), (6, (0, i))]) (st' := [(0, b), (0, mem 64 i / mem 52 p)]) rfl ?_
            refine jicmp_ne hF (off := 15) 80 (by decide +kernel) (by decide) (by omega) (by omega) (fun h_8 => ?_) (fun h_8 => ?_)
            · refine jblk hF [(.iinc 6 1, 3)] (by decide +kernel) (pc' := 83) (lo' := [(6, (0, i + 1)), (7, (2, sl)), (0, (2, 3)), (1, (0, p)), (2, (2, v)), (3, (0, b)), (4, (0, q)), (5, (0, c))]) (st' := []) rfl ?_
              refine jgoto hF (off := (-73)) 10 (by decide +kernel) (by decide) ?_
              refine jsub [2, 3, 4, 5, 6, 7, 0] rfl ?_
              refine ih_1 c (i + 1) ?_ ?_ ?_ ?_
              · omega
              · first | (rw [fsN_s (by omega), ← hc, if_neg (c := mem 63 i = p ∧ cntS mem i q ∧ mem 64 i / mem 52 p = b) (fun u => by omega)]; done) | (rw [fsN_s (by omega), ← hc, if_pos (c := mem 63 i = p ∧ cntS mem i q ∧ mem 64 i / mem 52 p = b) ⟨by omega, ⟨by omega, by omega⟩, by omega⟩, g2])
              · first | omega | (split <;> omega)
              · omega
            · refine jblk hF [(.iload 5, 2), (.aload 7, 2)] (by decide +kernel) (pc' := 72) (lo' := [(7, (2, sl)), (0, (2, 3)), (1, (0, p)), (2, (2, v)), (3, (0, b)), (4, (0, q)), (5, (0, c)), (6, (0, i))]) (st' := [(2, sl), (0, c)]) rfl ?_
              refine jget hF 9 1 0 1 rfl (by decide) (by decide) rfl wd_905 (by decide +kernel) (by first | exact hok.1 | exact hk.1 | assumption | omega) ?_
              refine jcallS hF (c_J9_min_7cf53 hG c (mem sl 1) (by omega) (by omega)) MW_J9_min_7cf53 wd_963 wd_483 (by decide +kernel) [] rfl rfl (by decide) (Nat.le_of_ble_eq_true rfl) (by decide) (kV ?_)
              refine jblk hF [(.istore 5, 2), (.iinc 6 1, 3)] (by decide +kernel) (pc' := 83) (lo' := [(6, (0, i + 1)), (5, (0, if (mem sl 1) < c then (mem sl 1) else c)), (7, (2, sl)), (0, (2, 3)), (1, (0, p)), (2, (2, v)), (3, (0, b)), (4, (0, q))]) (st' := []) rfl ?_
              refine jgoto hF (off := (-73)) 10 (by decide +kernel) (by decide) ?_
              refine jsub [3, 4, 5, 6, 7, 1, 0] rfl ?_
              refine ih_1 (if (mem sl 1) < c then (mem sl 1) else c) (i + 1) ?_ ?_ ?_ ?_
              · omega
              · first | (rw [fsN_s (by omega), ← hc, if_neg (c := mem 63 i = p ∧ cntS mem i q ∧ mem 64 i / mem 52 p = b) (fun u => by omega)]; done) | (rw [fsN_s (by omega), ← hc, if_pos (c := mem 63 i = p ∧ cntS mem i q ∧ mem 64 i / mem 52 p = b) ⟨by omega, ⟨by omega, by omega⟩, by omega⟩, g2])
              · first | omega | (split <;> omega)
              · omega
          · refine jif_eq hF (off := 28) 80 (by decide +kernel) (by decide) (by decide) (fun _ => ?_) (fun h => absurd h (by decide))
            refine jblk hF [(.iinc 6 1, 3)] (by decide +kernel) (pc' := 83) (lo' := [(6, (0, i + 1)), (7, (2, sl)), (0, (2, 3)), (1, (0, p)), (2, (2, v)), (3, (0, b)), (4, (0, q)), (5, (0, c))]) (st' := []) rfl ?_
            refine jgoto hF (off := (-73)) 10 (by decide +kernel) (by decide) ?_
            refine jsub [2, 3, 4, 5, 6, 7, 0] rfl ?_
            refine ih_1 c (i + 1) ?_ ?_ ?_ ?_
            · omega
            · first | (rw [fsN_s (by omega), ← hc, if_neg (c := mem 63 i = p ∧ cntS mem i q ∧ mem 64 i / mem 52 p = b) (fun u => by omega)]; done) | (rw [fsN_s (by omega), ← hc, if_pos (c := mem 63 i = p ∧ cntS mem i q ∧ mem 64 i / mem 52 p = b) ⟨by omega, ⟨by omega, by omega⟩, by omega⟩, g2])
            · first | omega | (split <;> omega)
            · omega
  refine jsub [2, 3, 4, 5, 6, 1, 0] rfl ?_
  refine L_2 _ (enV mem v b) 0 ?_ ?_ ?_ (Nat.lt_succ_self _)
  · omega
  · rfl
  · omega
set_option maxHeartbeats 4000000 in
set_option maxRecDepth 100000 in
theorem c_X11_healed {l : Launch} {g : GP} (hG : GH g) {kd : Int → Nat} {ln : Int → Int} {mem : Int → Int → Int} {sz : Nat} (hK : HK kd ln) (hR : HR mem) (p q : Int) (tg : Int → Int) (hI : INV kd ln mem sz tg) (h_p : InI p) (h_q : InI q) : MT l g yX11_healed cX11_healed 8 (some .int) 5 0 0 [(2, 3), (0, p), (0, q)] kd ln mem sz (pMR 0 (fun v mem' => HR mem' ∧ (SCF mem mem' ∧ ((isPg mem p ∧ isKn mem q) → v = heN mem p q (mem 47 p).toNat) ∧ (¬ (isPg mem p ∧ isKn mem q) → v = -1))) kd ln sz) := by
  refine MT_of hG (by decide +kernel) (Nat.le_of_ble_eq_true rfl) (fun z hF hr hn => ?_)
  obtain ⟨⟨q0, q1, q2, q3, q4, q5⟩, u0, u2, u46, u89, usz⟩ := hI.num
  have n29 : 0 ≤ mem 35 33 ∧ mem 35 33 ≤ 12 := ⟨hI.pgs.1, hI.pgs.2.1⟩
  obtain ⟨e29, k29, r29, b29, c29⟩ := hI.g29.ls
  refine jblk hF [(.aload_n 0, 1), (.iload_n 1, 1), (.iload_n 2, 1)] (by decide +kernel) (pc' := 3) (lo' := [(0, (2, 3)), (1, (0, p)), (2, (0, q))]) (st' := [(0, q), (0, p), (2, 3)]) rfl ?_
  refine jcallV hF (c_X11_madePage hG hK hR p q (by exact tg) (by assumption) (by omega) (by omega)) MW_X11_madePage 12 (by decide) (by exact hK.k3) wd_940 wd_942 wd_p27 (by decide +kernel) [] rfl rfl (by decide) (Nat.le_of_ble_eq_true rfl) (by decide) (kMR (fun v_3 m_1 h_2 => ?_))
  obtain ⟨hR_m_1, h_2⟩ := h_2
  have hw := h_2
  have hIm := hI.scf hw.1
  refine jblk hF [(.astore_n 3, 1), (.aload_n 3, 1)] (by decide +kernel) (pc' := 8) (lo' := [(3, (2, v_3)), (0, (2, 3)), (1, (0, p)), (2, (0, q))]) (st' := [(2, v_3)]) rfl ?_
  refine jnonnull hF (off := 5) 13 (by decide +kernel) (by decide) (fun h_4 => ?_) (fun h_4 => ?_)
  · obtain ⟨hpg, hpo, hmd⟩ := hw.2.1 (by omega)
    have hk := hpo.at
    have hpm := hpo.scf hw.1 hI
    have hpb := hpm.pb
    have hgn := hpm.nm
    have hn2 := hgn.2.2.1
    have hn4 := hgn.2.2.2.2.1
    have hn7 := hgn.2.2.2.2.2.2.2.1
    have hc47 := hw.1.c47 p
    have hc49 := hw.1.c49 p
    have hc52 := hw.1.c52 p
    have hsc := hw.1
    have hr14 := hpm.r8 (k := 14) (by decide)
    have hpP := hpo.2.2
    have e47 : m_1 v_3 2 = mem 47 p := hn2.trans hc47
    have e52 : m_1 v_3 7 = mem 52 p := hn7.trans hc52
    have hst0 : stV (mem 47 p) (mem 52 p) 0 = 0 := by unfold stV; rw [Int.zero_mul]; exact if_pos (by omega)
    have hdv := Int.ediv_nonneg (a := mem 47 p - 1) (b := mem 52 p) (by omega) (by omega)
    have hdl := Int.ediv_le_self (mem 52 p) (show 0 ≤ mem 47 p - 1 by omega)
    refine jblk hF [(.iconst 0, 1), (.istore 4, 2), (.iconst 0, 1), (.istore 5, 2)] (by decide +kernel) (pc' := 19) (lo' := [(5, (0, 0)), (4, (0, 0)), (3, (2, v_3)), (0, (2, 3)), (1, (0, p)), (2, (0, q))]) (st' := []) rfl ?_
    have L_6 : ∀ (fu_7 : Nat) (c : Int) (b : Int), (0 ≤ b ∧ b ≤ (mem 47 p - 1) / mem 52 p + 1) → (c = heN mem p q (stV (mem 47 p) (mem 52 p) b).toNat) → (0 ≤ c ∧ c ≤ 40) →  ((mem 47 p - 1) / mem 52 p + 1 - b).toNat < fu_7 → J z g 8 0 0 (QM z g 0 0 (pMR 0 (fun v mem' => HR mem' ∧ (SCF mem mem' ∧ ((isPg mem p ∧ isKn mem q) → v = heN mem p q (mem 47 p).toNat) ∧ (¬ (isPg mem p ∧ isKn mem q) → v = -1))) kd ln sz)) 19 [(0, (2, 3)), (1, (0, p)), (2, (0, q)), (3, (2, v_3)), (4, (0, c)), (5, (0, b))] [] kd ln m_1 sz := by
      intro fu_7
      induction fu_7 with
      | zero => intro c b _ _ _ hm; omega
      | succ fu_7 ih_5 =>
        intro c b hi hc hcb hm
        refine jblk hF [(.iload 5, 2), (.aload_n 3, 1)] (by decide +kernel) (pc' := 22) (lo' := [(0, (2, 3)), (1, (0, p)), (2, (0, q)), (3, (2, v_3)), (4, (0, c)), (5, (0, b))]) (st' := [(2, v_3), (0, b)]) rfl ?_
        refine jcallV hF (c_X3_blocks hG v_3 (by exact hk.1) (by omega) (by assumption)) MW_X3_blocks 4 (by decide) (by first | exact hk.1 | exact hr14.1 | assumption) wd_1037 wd_815 wd_816 (by decide +kernel) [(0, b)] rfl rfl (by decide) (Nat.le_of_ble_eq_true rfl) (by decide) (kV ?_)
        rw [e47, e52]
        refine jicmp_ge hF (off := 65) 90 (by decide +kernel) (by decide) (by omega) (by omega) (fun h_8 => ?_) (fun h_8 => ?_)
        · refine jblk hF [(.iload 4, 2)] (by decide +kernel) (pc' := 92) (lo' := [(0, (2, 3)), (1, (0, p)), (2, (0, q)), (3, (2, v_3)), (4, (0, c)), (5, (0, b))]) (st' := [(0, c)]) rfl ?_
          refine jiret hF hr (by decide +kernel) ?_
          exact lMR ⟨hR_m_1, by exact ⟨hsc, fun _ => by rw [hc, stV_end (by omega) (by omega) (show b = (mem 47 p - 1) / mem 52 p + 1 by omega)], fun w => absurd hpg w⟩⟩
        · have hsb := stV_in (L := mem 47 p) (m := mem 52 p) (b := b) (by omega) (by omega) (by omega)
          refine jblk hF [(.aload_n 3, 1), (.iload 5, 2)] (by decide +kernel) (pc' := 31) (lo' := [(0, (2, 3)), (1, (0, p)), (2, (0, q)), (3, (2, v_3)), (4, (0, c)), (5, (0, b))]) (st' := [(0, b), (2, v_3)]) rfl ?_
          refine jcallV hF (c_X3_endOf hG v_3 b (by exact hk.1) (by omega) (by assumption) (by omega)) MW_X3_endOf 4 (by decide) (by first | exact hk.1 | exact hr14.1 | assumption) wd_962 wd_827 wd_828 (by decide +kernel) [] rfl rfl (by decide) (Nat.le_of_ble_eq_true rfl) (by decide) (kV ?_)
          obtain ⟨E, hE⟩ : ∃ y : Int, y = enV m_1 v_3 b := ⟨_, rfl⟩
          rw [← hE]
          have hEe : E = stV (mem 47 p) (mem 52 p) (b + 1) := by rw [hE]; unfold enV stV; rw [e47, e52]
          obtain ⟨s1, s2, s3, s4, s5, s6⟩ := hsb
          rw [← hEe] at s3 s4 s5
          refine jblk hF [(.istore 6, 2), (.aload_n 0, 1), (.iload_n 1, 1), (.aload_n 3, 1), (.iload 5, 2), (.iload_n 2, 1)] (by decide +kernel) (pc' := 42) (lo' := [(6, (0, E)), (0, (2, 3)), (1, (0, p)), (2, (0, q)), (3, (2, v_3)), (4, (0, c)), (5, (0, b))]) (st' := [(0, q), (0, b), (2, v_3), (0, p), (2, 3)]) rfl ?_
          refine jcallV hF (c_X11_firstSlipped hG hK hR_m_1 p v_3 b q (by exact tg) (by exact hIm) (by first | exact hpm | assumption) (by omega) (by omega) (by omega)) MW_X11_firstSlipped 12 (by decide) (by exact hK.k3) wd_1038 wd_1040 wd_p30 (by decide +kernel) [] rfl rfl (by decide) (Nat.le_of_ble_eq_true rfl) (by decide) (kV ?_)
          obtain ⟨F, hFv⟩ : ∃ y : Int, y = fsN m_1 p q b (enV m_1 v_3 b) (m_1 35 45).toNat := ⟨_, rfl⟩
          rw [← hFv]
          rw [fsN_cg hsc, hsc 35 45 (by decide) (by decide) (by decide), ← hE] at hFv
          obtain ⟨⟨x1, x2⟩, x3, x4⟩ := he_blk (q := q) hpP hI.sls hi.1 rfl ⟨s3, s4⟩ hFv
          refine jblk hF [(.istore 7, 2)] (by decide +kernel) (pc' := 47) (lo' := [(7, (0, F)), (6, (0, E)), (0, (2, 3)), (1, (0, p)), (2, (0, q)), (3, (2, v_3)), (4, (0, c)), (5, (0, b))]) (st' := []) rfl ?_
          have L_10 : ∀ (fu_11 : Nat) (k : Int) (n : Int), (F ≤ n ∧ n ≤ E) → (k = heN mem p q n.toNat) →  (E - n).toNat < fu_11 → J z g 8 0 0 (QM z g 0 0 (pMR 0 (fun v mem' => HR mem' ∧ (SCF mem mem' ∧ ((isPg mem p ∧ isKn mem q) → v = heN mem p q (mem 47 p).toNat) ∧ (¬ (isPg mem p ∧ isKn mem q) → v = -1))) kd ln sz)) 47 [(0, (2, 3)), (1, (0, p)), (2, (0, q)), (3, (2, v_3)), (4, (0, k)), (5, (0, b)), (6, (0, E)), (7, (0, n))] [] kd ln m_1 sz := by
            intro fu_11
            induction fu_11 with
            | zero => intro k n _ _ hm; omega
            | succ fu_11 ih_9 =>
              intro k n hii hkk hm2
              have hkb := heN_bd mem p q n.toNat
              refine jblk hF [(.iload 7, 2), (.iload 6, 2)] (by decide +kernel) (pc' := 51) (lo' := [(0, (2, 3)), (1, (0, p)), (2, (0, q)), (3, (2, v_3)), (4, (0, k)), (5, (0, b)), (6, (0, E)), (7, (0, n))]) (st' := [(0, E), (0, n)]) rfl ?_
              refine jicmp_ge hF (off := 33) 84 (by decide +kernel) (by decide) (by omega) (by omega) (fun h_12 => ?_) (fun h_12 => ?_)
              · refine jblk hF [(.iinc 5 1, 3)] (by decide +kernel) (pc' := 87) (lo' := [(5, (0, b + 1)), (0, (2, 3)), (1, (0, p)), (2, (0, q)), (3, (2, v_3)), (4, (0, k)), (6, (0, E)), (7, (0, n))]) (st' := []) rfl ?_
                refine jgoto hF (off := (-68)) 19 (by decide +kernel) (by decide) ?_
                refine jsub [1, 2, 3, 4, 5, 0] rfl ?_
                refine ih_5 k (b + 1) ?_ ?_ ?_ ?_
                · omega
                · (rw [← hEe, ← show n = E by omega]; exact hkk)
                · omega
                · omega
              · refine jblk hF [(.aload_n 0, 1)] (by decide +kernel) (pc' := 55) (lo' := [(0, (2, 3)), (1, (0, p)), (2, (0, q)), (3, (2, v_3)), (4, (0, k)), (5, (0, b)), (6, (0, E)), (7, (0, n))]) (st' := [(2, 3)]) rfl ?_
                refine jget hF 12 9 2 9 rfl (by decide) (by decide) rfl wd_335 (by decide +kernel) (by exact hK.k3) ?_
                rw [HR.r3_9 hR_m_1]
                refine jget hF 3 0 2 0 rfl (by decide) (by decide) rfl wd_199 (by decide +kernel) (by exact hK.k10) ?_
                rw [HR.r10_0 hR_m_1]
                refine jblk hF [(.iload 7, 2)] (by decide +kernel) (pc' := 63) (lo' := [(0, (2, 3)), (1, (0, p)), (2, (0, q)), (3, (2, v_3)), (4, (0, k)), (5, (0, b)), (6, (0, E)), (7, (0, n))]) (st' := [(0, n), (2, 11)]) rfl ?_
                refine jlald hF (by decide +kernel) (by exact hK.k11) (by omega) (by have := hK.l11; omega) ?_
                refine jblk hF [(.aload_n 3, 1)] (by decide +kernel) (pc' := 65) (lo' := [(0, (2, 3)), (1, (0, p)), (2, (0, q)), (3, (2, v_3)), (4, (0, k)), (5, (0, b)), (6, (0, E)), (7, (0, n))]) (st' := [(2, v_3), (1, m_1 11 n)]) rfl ?_
                refine jget hF 4 14 2 14 rfl (by decide) (by decide) rfl wd_722 (by decide +kernel) (by first | exact hk.1 | exact hr14.1 | assumption) ?_
                refine jblk hF [(.iload 7, 2)] (by decide +kernel) (pc' := 70) (lo' := [(0, (2, 3)), (1, (0, p)), (2, (0, q)), (3, (2, v_3)), (4, (0, k)), (5, (0, b)), (6, (0, E)), (7, (0, n))]) (st' := [(0, n), (2, m_1 v_3 14), (1, m_1 11 n)]) rfl ?_
                refine jlald hF (by decide +kernel) (by first | exact hk.1 | exact hr14.1 | assumption) (by omega) (by omega) ?_
                have hkv := hmd.1 n (by omega) (by omega)
                have htv := (hpm.2.1.2.2.1 n (by omega) (by omega)).2.2.2.2.2.2.1
                rw [show numT m_1 p n = numT mem p n by rw [ovr_ex hsc.eqs]; rfl] at htv
                rw [hkv, htv]
                have hx4 := x4 n (by omega) (by omega)
                refine jlcmpW_ne hF (off := 6) 78 (by decide +kernel) (by decide +kernel) (by decide) (fun h_13 => ?_) (fun h_13 => ?_)
                · refine jblk hF [(.iinc 7 1, 3)] (by decide +kernel) (pc' := 81) (lo' := [(7, (0, n + 1)), (0, (2, 3)), (1, (0, p)), (2, (0, q)), (3, (2, v_3)), (4, (0, k)), (5, (0, b)), (6, (0, E))]) (st' := []) rfl ?_
                  refine jgoto hF (off := (-34)) 47 (by decide +kernel) (by decide) ?_
                  refine jsub [1, 2, 3, 4, 5, 6, 7, 0] rfl ?_
                  refine ih_9 k (n + 1) ?_ ?_ ?_
                  · omega
                  · (rw [hx4]; first | (rw [if_pos (by assumption)]; omega) | (rw [if_neg (by assumption)]; omega))
                  · omega
                · refine jblk hF [(.iinc 4 1, 3), (.iinc 7 1, 3)] (by decide +kernel) (pc' := 81) (lo' := [(7, (0, n + 1)), (4, (0, k + 1)), (0, (2, 3)), (1, (0, p)), (2, (0, q)), (3, (2, v_3)), (5, (0, b)), (6, (0, E))]) (st' := []) rfl ?_
                  refine jgoto hF (off := (-34)) 47 (by decide +kernel) (by decide) ?_
                  refine jsub [2, 3, 4, 5, 1, 6, 7, 0] rfl ?_
                  refine ih_9 (k + 1) (n + 1) ?_ ?_ ?_
                  · omega
                  · (rw [hx4]; first | (rw [if_pos (by assumption)]; omega) | (rw [if_neg (by assumption)]; omega))
                  · omega
          refine jsub [2, 3, 4, 5, 6, 7, 1, 0] rfl ?_
          refine L_10 _ c F ?_ ?_ (Nat.lt_succ_self _)
          · omega
          · (rw [hc, s1]; exact (he_to x1 x3).symm)
    refine jsub [3, 4, 5, 2, 1, 0] rfl ?_
    refine L_6 _ 0 0 ?_ ?_ ?_ (Nat.lt_succ_self _)
    · omega
    · (rw [hst0]; rfl)
    · omega
  · have hng := (hw.2.2 (by omega)).1
    refine jblk hF [(.iconst (-1), 1)] (by decide +kernel) (pc' := 12) (lo' := [(3, (2, v_3)), (0, (2, 3)), (1, (0, p)), (2, (0, q))]) (st' := [(0, (-1))]) rfl ?_
    refine jiret hF hr (by decide +kernel) ?_
    exact lMR ⟨hR_m_1, by exact ⟨hw.1, fun w => absurd w hng, fun _ => rfl⟩⟩
end
