section
section
variable {mem : Int → Int → Int} {p o m n c i : Int} {nr : Int → Int}
theorem X_mono {X : Nat → Nat → Int} {o Tm tn dn : Nat} (h0 : ∀ d : Nat, d ≤ o → X 0 d = 0) (hz : ∀ t : Nat, t < Tm → X (t + 1) 0 = X t 0) (hs : ∀ t d : Nat, t < Tm → d < o → ∃ E : Int, X (t + 1) (d + 1) = X t (d + 1) + X (t + 1) d + E ∧ 0 ≤ E ∧ (t + 1 = tn → d + 1 = dn → E = 1)) (htn : 1 ≤ tn) (hdn : 1 ≤ dn) : ∀ t : Nat, t ≤ Tm → ∀ d : Nat, d ≤ o → 0 ≤ X t d ∧ (tn ≤ t → dn ≤ d → 1 ≤ X t d) := by
  intro t
  induction t with
  | zero =>
    intro _ d hd
    rw [h0 d hd]
    exact ⟨Int.le_refl _, fun u _ => by omega⟩
  | succ t ih =>
    intro ht d
    induction d with
    | zero =>
      intro hd
      rw [hz t (by omega)]
      exact ⟨(ih (by omega) 0 hd).1, fun _ u => by omega⟩
    | succ d ihd =>
      intro hd
      obtain ⟨E, h1, h2, h3⟩ := hs t d (by omega) (by omega)
      have a1 := ih (by omega) (d + 1) hd
      have a2 := ihd (by omega)
      rw [h1]
      refine ⟨by omega, fun u1 u2 => ?_⟩
      by_cases w : tn ≤ t
      · have := a1.2 w u2; omega
      · by_cases w2 : dn ≤ d
        · have := a2.2 u1 w2; omega
        · have := h3 (by omega) (by omega); omega
theorem gB_one : ∀ o : Fin 5, ∀ t : Fin 40, gB (fun _ => 0) 1 o.val o.val t.val ≤ 1000000000 := by decide +kernel
theorem oneA_in {a b v : Int} (h : a = b) : oneA a v b = v := if_pos h.symm
theorem oneA_no {a b v : Int} (h : b ≠ a) : oneA a v b = 0 := if_neg h
/-- one addition to a column: how far the lines behind it are off -/
theorem one_row (ho : 1 ≤ o ∧ o ≤ 4) (hm : o + 2 ≤ m ∧ m ≤ 40) (hn : 0 ≤ n) (hno : o < n % m) (hc : 0 ≤ c ∧ c < o) (hi : n ≤ i ∧ i < n - n % m + m) : 1 ≤ rowF nr (oneA (5 * n + c) 1) o m i 0 - rowF nr (fun _ => 0) o m i 0 ∧ rowF nr (oneA (5 * n + c) 1) o m i 0 - rowF nr (fun _ => 0) o m i 0 ≤ 1000000000 := by
  obtain ⟨b1, b2, b3, b4⟩ := blk_st (m := m) (n := n) (by omega) hn
  obtain ⟨s, hs⟩ : ∃ y : Int, y = n - n % m := ⟨_, rfl⟩
  rw [← hs] at b1 b2 b3 b4 hi
  obtain ⟨T, hT⟩ : ∃ T : Nat, i = s + o + T := ⟨(i - s - o).toNat, by omega⟩
  obtain ⟨X, hX⟩ : ∃ X : Nat → Nat → Int, X = fun (t d : Nat) => rowF nr (oneA (5 * n + c) 1) o m (s + o + t) (o - d) - rowF nr (fun _ => 0) o m (s + o + t) (o - d) := ⟨_, rfl⟩
  have hXe : ∀ t d : Nat, X t d = rowF nr (oneA (5 * n + c) 1) o m (s + o + t) (o - d) - rowF nr (fun _ => 0) o m (s + o + t) (o - d) := fun t d => by rw [hX]
  have h0 : ∀ d : Nat, d ≤ o.toNat → X 0 d = 0 := fun d hd => by
    have e0 : (s + o + ((0 : Nat) : Int)) % m = s + o + ((0 : Nat) : Int) - s := blk_mod (by omega) b1 (by omega) (by omega)
    rw [hXe, rowF_piv (by omega) (by omega) (by omega) (by omega), rowF_piv (by omega) (by omega) (by omega) (by omega)]
    omega
  have hz : ∀ t : Nat, t < T → X (t + 1) 0 = X t 0 := fun t ht => by
    rw [hXe, hXe, (rowF_X (d := 0) (by omega) (by omega) b1 b2 (by omega)).1, (rowF_X (d := 0) (by omega) (by omega) b1 b2 (by omega)).1]
  have hst : ∀ t d : Nat, t < T → d < o.toNat → X (t + 1) (d + 1) = X t (d + 1) + X (t + 1) d + oneA (5 * n + c) 1 (5 * (s + o + ((t + 1 : Nat) : Int)) + (o - ((d + 1 : Nat) : Int))) := fun t d ht hd => by
    rw [hXe, hXe, hXe, (rowF_X (by omega) (by omega) b1 b2 (by omega)).2 (by omega), (rowF_X (by omega) (by omega) b1 b2 (by omega)).2 (by omega)]
    omega
  have h1b : ∀ y : Int, 0 ≤ oneA (5 * n + c) 1 y ∧ oneA (5 * n + c) 1 y ≤ 1 := fun y => by unfold oneA; split <;> omega
  have k1 := X_mono (X := X) (o := o.toNat) (Tm := T) (tn := (n - s - o).toNat) (dn := (o - c).toNat) h0 hz (fun t d ht hd => ⟨_, hst t d ht hd, (h1b _).1, fun u1 u2 => oneA_in (by omega)⟩) (by omega) (by omega) T (Nat.le_refl _) o.toNat (Nat.le_refl _)
  have k2 := gB_bd (X := X) (P := fun _ => 0) (e := 1) (o := o.toNat) (Tm := T) (fun d hd => by rw [h0 d hd]; omega) hz (fun t d ht hd => ⟨_, hst t d ht hd, by have := (h1b (5 * (s + o + ((t + 1 : Nat) : Int)) + (o - ((d + 1 : Nat) : Int)))).1; omega, (h1b _).2⟩) T (Nat.le_refl _) o.toNat (Nat.le_refl _)
  have k3 : gB (fun _ => 0) 1 o.toNat o.toNat T ≤ 1000000000 := gB_one ⟨o.toNat, by omega⟩ ⟨T, by omega⟩
  have e := hXe T o.toNat
  rw [show o - ((o.toNat : Nat) : Int) = 0 by omega, ← hT] at e
  rw [e] at k1 k2
  have := k1.2 (by omega) (by omega)
  omega
theorem one_df (ho : 1 ≤ o ∧ o ≤ 4) (hm : o + 2 ≤ m ∧ m ≤ 40) (hn : 0 ≤ n) (hno : o < n % m) (hc : c = 9 ∨ (0 ≤ c ∧ c < o)) (hi : 0 ≤ i) : wL (numF nr (oneA (5 * n + slotV c) 1) o m i) ≠ wL (numF nr (fun _ => 0) o m i) ↔ (if c = 9 then i = n else n ≤ i ∧ i < n - n % m + m) := by
  obtain ⟨b1, b2, b3, b4⟩ := blk_st (m := m) (n := n) (by omega) hn
  obtain ⟨d1, d2, d3, d4⟩ := blk_st (m := m) (n := i) (by omega) hi
  by_cases hp : i % m ≤ o
  · rw [numF_piv hi (by omega) (by omega) hp, numF_piv hi (by omega) (by omega) hp]
    refine ⟨fun u => absurd rfl u, fun u => ?_⟩
    exfalso
    by_cases w : c = 9
    · rw [if_pos w] at u; subst u; omega
    · rw [if_neg w] at u
      have := blk_mod (n := i) (by omega) b1 (by omega) u.2
      omega
  · rw [numF_made hi (by omega) (by omega) hp, numF_made hi (by omega) (by omega) hp]
    by_cases w : c = 9
    · rw [if_pos w, w]
      show wL (rowF nr (oneA (5 * n + slotV 9) 1) o m i 0 + oneA (5 * n + slotV 9) 1 (5 * i + 4)) ≠ wL (rowF nr (fun _ => 0) o m i 0 + 0) ↔ i = n
      rw [show slotV 9 = 4 from rfl, rowF_cg (nr' := nr) (ad' := fun _ => 0) (by omega) (by omega) hi (by omega) (by omega) (fun _ _ _ => rfl) (fun a b u1 u2 u3 u4 => oneA_no (by omega))]
      by_cases e : i = n
      · rw [e, oneA_in rfl]
        exact ⟨fun _ => rfl, fun _ u => by rw [wL_eq_iff] at u; omega⟩
      · rw [oneA_no (by omega)]
        exact ⟨fun u => absurd rfl u, fun u => absurd u e⟩
    · rw [if_neg w, show slotV c = c from if_neg w, oneA_no (by omega)]
      by_cases e : n ≤ i ∧ i < n - n % m + m
      · have k := one_row (nr := nr) (c := c) ho hm hn hno (by omega) e
        exact ⟨fun _ => e, fun _ u => by rw [wL_eq_iff] at u; omega⟩
      · rw [rowF_cg (nr' := nr) (ad' := fun _ => 0) (by omega) (by omega) hi (by omega) (by omega) (fun _ _ _ => rfl) (fun a b u1 u2 u3 u4 => oneA_no (fun u => e (by
          have x1 : a = n := by omega
          subst x1
          have x2 := blk_mod (n := a) (by omega) d1 (by omega) (by omega)
          omega)))]
        exact ⟨fun u => absurd rfl u, fun u => absurd u e⟩
theorem spN_cn (hp : PG mem p) (hn : 0 ≤ n) (hno : mem 49 p < n % mem 52 p) (hc : c = 9 ∨ (0 ≤ c ∧ c < mem 49 p)) : ∀ k : Nat, spN mem p (oneA (5 * n + slotV c) 1) k = if (k : Int) ≤ n then 0 else if c = 9 then 1 else if (k : Int) ≤ n - n % mem 52 p + mem 52 p then k - n else n - n % mem 52 p + mem 52 p - n := by
  have hb := blk_st (m := mem 52 p) (n := n) (by omega) hn
  intro k
  induction k with
  | zero => exact (if_pos (by omega)).symm
  | succ k ih =>
    have hd := one_df (nr := nearP mem p) (o := mem 49 p) (m := mem 52 p) (i := (k : Int)) (c := c) (by omega) (by omega) hn hno hc (by omega)
    unfold spN numT
    rw [ih]
    rw [show (((k + 1 : Nat)) : Int) = (k : Int) + 1 by omega]
    obtain ⟨Q, hQ⟩ : ∃ y : Prop, y = (wL (numF (nearP mem p) (oneA (5 * n + slotV c) 1) (mem 49 p) (mem 52 p) k) ≠ wL (numF (nearP mem p) (fun _ => 0) (mem 49 p) (mem 52 p) k)) := ⟨_, rfl⟩
    rw [← hQ] at hd
    have hi : (if wL (numF (nearP mem p) (oneA (5 * n + slotV c) 1) (mem 49 p) (mem 52 p) k) ≠ wL (numF (nearP mem p) (fun _ => 0) (mem 49 p) (mem 52 p) k) then (1 : Int) else 0) = (if c = 9 then (if (k : Int) = n then 1 else 0) else if n ≤ k ∧ (k : Int) < n - n % mem 52 p + mem 52 p then 1 else 0) := by
      by_cases w : c = 9
      · rw [if_pos w] at hd ⊢
        by_cases u : (k : Int) = n
        · rw [if_pos u]; exact if_pos (hQ ▸ hd.2 u)
        · rw [if_neg u]; exact if_neg (fun v => u (hd.1 (hQ ▸ v)))
      · rw [if_neg w] at hd ⊢
        by_cases u : n ≤ (k : Int) ∧ (k : Int) < n - n % mem 52 p + mem 52 p
        · rw [if_pos u]; exact if_pos (hQ ▸ hd.2 u)
        · rw [if_neg u]; exact if_neg (fun v => u (hd.1 (hQ ▸ v)))
    rw [hi]
    obtain ⟨E, hE⟩ : ∃ y : Int, y = n - n % mem 52 p + mem 52 p := ⟨_, rfl⟩
    rw [← hE] at hb ⊢
    by_cases w : c = 9
    · rw [if_pos w, if_pos w, if_pos w]
      (repeat' split) <;> omega
    · rw [if_neg w, if_neg w, if_neg w]
      (repeat' split) <;> omega
abbrev spCC (mem : Int → Int → Int) (p n c : Int) : Prop := isLn mem p n ∧ n % mem 52 p > mem 49 p ∧ (c = 9 ∨ (0 ≤ c ∧ c ≤ mem 49 p - 1))
def spVV (mem : Int → Int → Int) (p n c : Int) : Int := if spCC mem p n c then spN mem p (oneA (5 * n + slotV c) 1) (mem 47 p).toNat else -1
end
set_option maxHeartbeats 4000000 in
set_option maxRecDepth 100000 in
theorem c_X11_spread {l : Launch} {g : GP} (hG : GH g) {kd : Int → Nat} {ln : Int → Int} {mem : Int → Int → Int} {sz : Nat} (hK : HK kd ln) (hR : HR mem) (p n c : Int) (tg : Int → Int) (hI : INV kd ln mem sz tg) (h_p : InI p) (h_n : InI n) (h_c : InI c) : MT l g yX11_spread cX11_spread 5 (some .int) 5 0 0 [(2, 3), (0, p), (0, n), (0, c)] kd ln mem sz (pV (0, spVV mem p n c) kd ln mem sz) := by
  refine MT_of hG (by decide +kernel) (Nat.le_of_ble_eq_true rfl) (fun z hF hr hn => ?_)
  obtain ⟨⟨q0, q1, q2, q3, q4, q5⟩, u0, u2, u46, u89, usz⟩ := hI.num
  have n29 : 0 ≤ mem 35 33 ∧ mem 35 33 ≤ 12 := ⟨hI.pgs.1, hI.pgs.2.1⟩
  obtain ⟨e29, k29, r29, b29, c29⟩ := hI.g29.ls
  refine jblk hF [(.aload_n 0, 1), (.iload_n 1, 1), (.iload_n 2, 1)] (by decide +kernel) (pc' := 3) (lo' := [(0, (2, 3)), (1, (0, p)), (2, (0, n)), (3, (0, c))]) (st' := [(0, n), (0, p), (2, 3)]) rfl ?_
  refine jcallV hF (c_X11_pageWith hG hK hR p n (by exact tg) (by assumption) (by omega) (by omega)) MW_X11_pageWith 12 (by decide) (by exact hK.k3) wd_869 wd_871 wd_p25 (by decide +kernel) [] rfl rfl (by decide) (Nat.le_of_ble_eq_true rfl) (by decide) (kR (fun v_1 h_2 => ?_))
  have hv := h_2
  refine jblk hF [(.astore 4, 2), (.aload 4, 2)] (by decide +kernel) (pc' := 10) (lo' := [(4, (2, v_1)), (0, (2, 3)), (1, (0, p)), (2, (0, n)), (3, (0, c))]) (st' := [(2, v_1)]) rfl ?_
  refine jnull hF (off := 13) 23 (by decide +kernel) (by decide) (fun h_3 => ?_) (fun h_3 => ?_)
  · have hng : ¬ spCC mem p n c := fun u => by first | exact (hv.2 (by omega)).1 u.1 | (have := u.2; omega)
    refine jblk hF [(.iconst (-1), 1)] (by decide +kernel) (pc' := 24) (lo' := [(4, (2, v_1)), (0, (2, 3)), (1, (0, p)), (2, (0, n)), (3, (0, c))]) (st' := [(0, (-1))]) rfl ?_
    refine jiret hF hr (by decide +kernel) ?_
    exact lV (by exact (if_neg hng).symm)
  · obtain ⟨hpg, hpo⟩ := hv.1 (by omega)
    have hk := hpo.at
    have hpb := hpo.pb
    have hgn := hpo.nm
    have hn2 := hgn.2.2.1
    have hn4 := hgn.2.2.2.2.1
    have hn7 := hgn.2.2.2.2.2.2.2.1
    have hmo : n % mem v_1 7 = n % mem 52 p := by rw [hn7]
    have hpP := hpo.2.2
    have hdv := Int.mul_ediv_add_emod n (mem 52 p)
    have hdv0 := Int.ediv_nonneg (a := n) (b := mem 52 p) (by omega) (by omega)
    have hdv1 := Int.ediv_le_self (mem 52 p) (show 0 ≤ n by omega)
    have hdq : n / mem v_1 7 = n / mem 52 p := by rw [hn7]
    have hdb : (n / mem 52 p + 1) * mem 52 p = mem 52 p * (n / mem 52 p) + mem 52 p := by rw [Int.add_mul, Int.one_mul, Int.mul_comm]
    have hen : enV mem v_1 (n / mem v_1 7) = if n - n % mem 52 p + mem 52 p < mem 47 p then n - n % mem 52 p + mem 52 p else mem 47 p := by unfold enV; rw [hdq, hn7, hn2, hdb, show mem 52 p * (n / mem 52 p) + mem 52 p = n - n % mem 52 p + mem 52 p by omega]
    refine jblk hF [(.aload 4, 2), (.iload_n 2, 1), (.iload_n 3, 1)] (by decide +kernel) (pc' := 17) (lo' := [(4, (2, v_1)), (0, (2, 3)), (1, (0, p)), (2, (0, n)), (3, (0, c))]) (st' := [(0, c), (0, n), (2, v_1)]) rfl ?_
    refine jcallV hF (c_X3_canSlip hG v_1 n c (by first | assumption | omega) (by omega) (by assumption) (by omega) (by omega)) MW_X3_canSlip 4 (by decide) (by first | exact hk.1 | assumption | omega) wd_885 wd_886 wd_887 (by decide +kernel) [] rfl rfl (by decide) (Nat.le_of_ble_eq_true rfl) (by decide) (kB (fun h_4 => ?_) (fun h_4 => ?_))
    · refine jif_ne hF (off := 5) 25 (by decide +kernel) (by decide) (by decide) (fun _ => ?_) (fun h => absurd h (by decide))
      have hcc : spCC mem p n c := ⟨hpg, by omega, by omega⟩
      have hsp := spN_cn hpP hpg.2.1 hcc.2.1 (show c = 9 ∨ (0 ≤ c ∧ c < mem 49 p) by omega) (mem 47 p).toNat
      rw [show (((mem 47 p).toNat : Nat) : Int) = mem 47 p by omega] at hsp
      have hlt : ¬ (mem 47 p ≤ n) := by omega
      rw [if_neg hlt] at hsp
      refine jblk hF [(.iload_n 3, 1), (.bipush 9, 2)] (by decide +kernel) (pc' := 28) (lo' := [(4, (2, v_1)), (0, (2, 3)), (1, (0, p)), (2, (0, n)), (3, (0, c))]) (st' := [(0, 9), (0, c)]) rfl ?_
      refine jicmp_ne hF (off := 7) 35 (by decide +kernel) (by decide) (by omega) (by decide) (fun h_6 => ?_) (fun h_6 => ?_)
      · refine jblk hF [(.aload 4, 2), (.aload 4, 2), (.iload_n 2, 1)] (by decide +kernel) (pc' := 40) (lo' := [(4, (2, v_1)), (0, (2, 3)), (1, (0, p)), (2, (0, n)), (3, (0, c))]) (st' := [(0, n), (2, v_1), (2, v_1)]) rfl ?_
        refine jcallV hF (c_X3_blockOf hG v_1 n (by first | assumption | omega) (by omega) (by omega) (by omega)) MW_X3_blockOf 4 (by decide) (by first | exact hk.1 | assumption | omega) wd_961 wd_790 wd_791 (by decide +kernel) [(2, v_1)] rfl rfl (by decide) (Nat.le_of_ble_eq_true rfl) (by decide) (kV ?_)
        refine jcallV hF (c_X3_endOf hG v_1 (n / mem v_1 7) (by first | assumption | omega) (by omega) (by assumption) (by omega)) MW_X3_endOf 4 (by decide) (by first | exact hk.1 | assumption | omega) wd_962 wd_827 wd_828 (by decide +kernel) [] rfl rfl (by decide) (Nat.le_of_ble_eq_true rfl) (by decide) (kV ?_)
        refine jblk hF [(.iload_n 2, 1), (.isub, 1)] (by decide +kernel) (pc' := 48) (lo' := [(4, (2, v_1)), (0, (2, 3)), (1, (0, p)), (2, (0, n)), (3, (0, c))]) (st' := [(0, (enV mem v_1 (n / mem v_1 7)) - n)]) rfl ?_
        refine jiret hF hr (by decide +kernel) ?_
        exact lV (by (unfold spVV; rw [if_pos hcc, hsp]; first | exact (if_pos (by omega)).symm | (rw [if_neg (by omega)]; split <;> first | rfl | omega)))
      · refine jblk hF [(.iconst 1, 1)] (by decide +kernel) (pc' := 32) (lo' := [(4, (2, v_1)), (0, (2, 3)), (1, (0, p)), (2, (0, n)), (3, (0, c))]) (st' := [(0, 1)]) rfl ?_
        refine jgoto hF (off := 16) 48 (by decide +kernel) (by decide) ?_
        refine jiret hF hr (by decide +kernel) ?_
        exact lV (by (unfold spVV; rw [if_pos hcc, hsp]; first | exact (if_pos (by omega)).symm | (rw [if_neg (by omega)]; split <;> first | rfl | omega)))
    · refine jif_ne hF (off := 5) 25 (by decide +kernel) (by decide) (by decide) (fun h => absurd h (by decide)) (fun _ => ?_)
      have hng : ¬ spCC mem p n c := fun u => by first | exact (hv.2 (by omega)).1 u.1 | (have := u.2; omega)
      refine jblk hF [(.iconst (-1), 1)] (by decide +kernel) (pc' := 24) (lo' := [(4, (2, v_1)), (0, (2, 3)), (1, (0, p)), (2, (0, n)), (3, (0, c))]) (st' := [(0, (-1))]) rfl ?_
      refine jiret hF hr (by decide +kernel) ?_
      exact lV (by exact (if_neg hng).symm)
end
