section
/-- a list's cells: its row, its size -/
abbrev LSO (kd : Int → Nat) (ln : Int → Int) (mem : Int → Int → Int) (sz : Nat) (a : Int) : Prop := kd a = 1 ∧ 3 ≤ a ∧ a < sz ∧ kd (mem a 1) = 23 ∧ mem a 1 < sz ∧ 0 ≤ mem a 2 ∧ mem a 2 ≤ ln (mem a 1) ∧ mem a 2 ≤ 63 ∧ ln (mem a 1) ≤ 100 ∧ (mem a 2 = ln (mem a 1) → ln (mem a 1) ≤ 63) ∧ ((mem a 1 = 1 ∧ ln (mem a 1) = 0) ∨ (35 ≤ mem a 1 ∧ 1 ≤ ln (mem a 1))) ∧ 35 ≤ sz
def GRW (kd : Int → Nat) (ln : Int → Int) (mem : Int → Int → Int) (sz : Nat) (a v : Int) (kd' : Int → Nat) (ln' : Int → Int) (mem' : Int → Int → Int) : Prop := v = sz ∧ kd' v = 23 ∧ ln (mem a 1) + 1 ≤ ln' v ∧ ln' v ≤ 100 ∧ (∀ j : Int, 0 ≤ j → j < ln (mem a 1) → mem' v j = mem (mem a 1) j) ∧ mem' a 1 = v ∧ ∀ b j : Int, b ≠ v → ¬ (b = a ∧ j = 1) → mem' b j = mem b j
/-- what add leaves -/
def ADDP (ln : Int → Int) (mem : Int → Int → Int) (sz : Nat) (a e : Int) (kd' : Int → Nat) (ln' : Int → Int) (mem' : Int → Int → Int) : Prop := kd' (mem' a 1) = 23 ∧ mem a 2 < ln' (mem' a 1) ∧ ln' (mem' a 1) ≤ 100 ∧ (mem' a 1 = mem a 1 ∨ mem' a 1 = sz) ∧ 35 ≤ mem' a 1 ∧ mem' a 2 = mem a 2 + 1 ∧ mem' (mem' a 1) (mem a 2) = e ∧ (∀ j : Int, 0 ≤ j → j < mem a 2 → mem' (mem' a 1) j = mem (mem a 1) j) ∧ ∀ b j : Int, b ≠ a → b ≠ mem' a 1 → mem' b j = mem b j
theorem ADDP.of {ln : Int → Int} {mem m : Int → Int → Int} {sz : Nat} {a e D s : Int} {kd' : Int → Nat} {ln' : Int → Int} (hD : m a 1 = D) (hDa : D ≠ a) (h1 : kd' D = 23) (h2 : mem a 2 < ln' D ∧ ln' D ≤ 100) (h3 : D = mem a 1 ∨ D = sz) (h4 : 35 ≤ D) (hs : s = mem a 2) (hfr : ∀ b j : Int, b ≠ a → b ≠ D → m b j = mem b j) (hold : ∀ j : Int, 0 ≤ j → j < mem a 2 → m D j = mem (mem a 1) j) : ADDP ln mem sz a e kd' ln' (set2 (set2 m D s e) a 2 (s + 1)) := by
  subst hs
  have e1 : set2 (set2 m D (mem a 2) e) a 2 (mem a 2 + 1) a 1 = D := ((s2_k (by decide)).trans (s2_a (fun q => hDa q.symm))).trans hD
  unfold ADDP
  rw [e1]
  exact ⟨h1, h2.1, h2.2, h3, h4, s2_s, (s2_a hDa).trans s2_s, fun j q1 q2 => (s2_a hDa).trans ((s2_k (by omega)).trans (hold j q1 q2)), fun b j q1 q2 => (s2_a q1).trans ((s2_a q2).trans (hfr b j q1 q2))⟩
set_option maxHeartbeats 4000000 in
set_option maxRecDepth 100000 in
theorem c_Jx4a65c_grow_92f84 {l : Launch} {g : GP} (hG : GH g) {kd : Int → Nat} {ln : Int → Int} {mem : Int → Int → Int} {sz : Nat} (a : Int) (n : Int) (hEM : EMP g) (mi : Nat) (hMI : va_Mi "[Ljava/lang/Object;" mi (gs g)) (hL : LSO kd ln mem sz a) (hEL : ELS kd (mem (mem a 1)) (mem a 2)) (hn0 : n = mem a 2 + 1 ∧ mem a 2 = ln (mem a 1)) : MT l g yJx4a65c_grow_92f84 cJx4a65c_grow_92f84 4 (some (.array (.object "java/lang/Object"))) 3 1 100 [(2, a), (0, n)] kd ln mem sz (pXR 2 (fun v kd' ln' mem' sz' => (GRW kd ln mem sz a v kd' ln' mem' ∧ v < sz')) kd ln sz) := by
  refine MT_of hG (by decide +kernel) (Nat.le_of_ble_eq_true rfl) (fun z hF hr hn => ?_)
  obtain ⟨l1, l2, l2b, l3, l4, l5, l6, l7, l8, l9, l10, l11⟩ := id hL
  have hEL2 : ELS kd (mem (mem a 1)) (ln (mem a 1)) := by rw [← hn0.2]; exact hEL
  refine jblk hF [(.aload_n 0, 1)] (by decide +kernel) (pc' := 1) (lo' := [(0, (2, a)), (1, (0, n))]) (st' := [(2, a)]) rfl ?_
  refine jget hF 0 1 2 1 rfl (by decide) (by decide) rfl wd_314 (by decide +kernel) (by first | assumption | omega) ?_
  refine jalen hF 3 (by decide) (by decide +kernel) (by first | assumption | omega) ?_
  refine jblk hF [(.istore_n 2, 1), (.iload_n 2, 1)] (by decide +kernel) (pc' := 7) (lo' := [(2, (0, ln (mem a 1))), (0, (2, a)), (1, (0, n))]) (st' := [(0, ln (mem a 1))]) rfl ?_
  refine jif_gt hF (off := 13) 20 (by decide +kernel) (by decide) (by omega) (fun h_1 => ?_) (fun h_1 => ?_)
  · refine jblk hF [(.iload_n 2, 1), (.iload_n 1, 1), (.iload_n 2, 1), (.isub, 1), (.iload_n 2, 1)] (by decide +kernel) (pc' := 25) (lo' := [(2, (0, ln (mem a 1))), (0, (2, a)), (1, (0, n))]) (st' := [(0, ln (mem a 1)), (0, n - (ln (mem a 1))), (0, ln (mem a 1))]) rfl ?_
    refine jblk hF [(.iconst 1, 1), (.ishr, 1)] (by decide +kernel) (pc' := 27) (lo' := [(2, (0, ln (mem a 1))), (0, (2, a)), (1, (0, n))]) (st' := [(0, fishr (ln (mem a 1)) 1), (0, n - (ln (mem a 1))), (0, ln (mem a 1))]) rfl ?_
    have hsh : fishr (ln (mem a 1)) 1 = ln (mem a 1) / 2 := by rw [fishr_lit ⟨by omega, by omega⟩ 1 (by decide)]; rfl
    rw [hsh]
    have hmx : (if n - ln (mem a 1) < ln (mem a 1) / 2 then ln (mem a 1) / 2 else n - ln (mem a 1)) ≤ 31 ∧ 1 ≤ (if n - ln (mem a 1) < ln (mem a 1) / 2 then ln (mem a 1) / 2 else n - ln (mem a 1)) := by split <;> omega
    refine jcallS hF (c_J8_newLength_cabcc hG (ln (mem a 1)) (n - (ln (mem a 1))) (ln (mem a 1) / 2) (by omega)) MW_J8_newLength_cabcc wd_446 wd_447 (by decide +kernel) [] rfl rfl (by decide) (Nat.le_of_ble_eq_true rfl) (by decide) (kV ?_)
    refine jblk hF [(.istore_n 3, 1), (.aload_n 0, 1), (.aload_n 0, 1)] (by decide +kernel) (pc' := 33) (lo' := [(3, (0, (ln (mem a 1)) + (if (n - (ln (mem a 1))) < (ln (mem a 1) / 2) then (ln (mem a 1) / 2) else (n - (ln (mem a 1)))))), (2, (0, ln (mem a 1))), (0, (2, a)), (1, (0, n))]) (st' := [(2, a), (2, a)]) rfl ?_
    refine jget hF 0 1 2 1 rfl (by decide) (by decide) rfl wd_314 (by decide +kernel) (by first | assumption | omega) ?_
    refine jblk hF [(.iload_n 3, 1)] (by decide +kernel) (pc' := 37) (lo' := [(3, (0, (ln (mem a 1)) + (if (n - (ln (mem a 1))) < (ln (mem a 1) / 2) then (ln (mem a 1) / 2) else (n - (ln (mem a 1)))))), (2, (0, ln (mem a 1))), (0, (2, a)), (1, (0, n))]) (st' := [(0, (ln (mem a 1)) + (if (n - (ln (mem a 1))) < (ln (mem a 1) / 2) then (ln (mem a 1) / 2) else (n - (ln (mem a 1))))), (2, mem a 1), (2, a)]) rfl ?_
    refine jcallS hF (c_copyOf2 hG hMI (mem a 1) ((ln (mem a 1)) + (if (n - (ln (mem a 1))) < (ln (mem a 1) / 2) then (ln (mem a 1) / 2) else (n - (ln (mem a 1))))) (by assumption) (by omega) (by omega) (by omega) (by assumption)) MW_J7_copyOf_1904c wd_454 wd_455 (by decide +kernel) [(2, a)] rfl rfl (by decide) (Nat.le_of_ble_eq_true rfl) (by decide) (kXR (fun v_2 kd_2 ln_2 m_2 sz_2 hE_2 h_2 => ?_))
    have hEE_2 : EXT kd ln sz kd_2 ln_2 sz_2 := (EXT.rf).tr hE_2
    obtain ⟨hq1, hq2, hq3, hq4, hq5, hq6⟩ := h_2
    have hk2 : kd_2 a = 1 := (hE_2.2 a (by omega)).1.trans l1
    refine jdupx1 hF (by show ¬ (2 : Nat) = 1; decide) (by show ¬ (2 : Nat) = 1; decide) (by decide +kernel) ?_
    refine jput hF 0 1 2 1 rfl (by decide) (by decide) rfl wd_314 (by decide +kernel) rfl (Or.inr (Or.inr (Or.inr (Or.inr ⟨_, rfl⟩)))) (by first | assumption | omega) (fun h => by cases h) ?_
    refine jwiden (k := 1) (n := 100) (Nat.le_of_ble_eq_true rfl) (by first | exact Nat.le_of_ble_eq_true rfl | (show 0 + 0 + Int.toNat _ ≤ 100; split <;> omega)) ?_
    refine jaret hF hr (Or.inr ⟨_, rfl⟩) (by decide +kernel) ?_
    exact ⟨_, rfl, hEE_2, (by exact ⟨⟨hq1, hq3, by omega, by omega, fun j h1 h2 => by rw [s2_a (by omega)]; exact hq6 j h1 h2, s2_s, fun b j q1 q2 => (if_neg q2).trans (hq5 b j q1)⟩, by omega⟩)⟩
  · refine jblk hF [(.aload_n 0, 1)] (by decide +kernel) (pc' := 11) (lo' := [(2, (0, ln (mem a 1))), (0, (2, a)), (1, (0, n))]) (st' := [(2, a)]) rfl ?_
    refine jget hF 0 1 2 1 rfl (by decide) (by decide) rfl wd_314 (by decide +kernel) (by first | assumption | omega) ?_
    refine jgets hF 1 hEM wd_312 (by decide +kernel) ?_
    show J z g 4 _ _ _ 17 _ ((2, (1 : Int)) :: _) _ _ _ _
    refine jacmp_eq hF (off := 28) 45 (by decide +kernel) (by decide) (by omega) (by omega) (fun h_3 => ?_) (fun h_3 => ?_)
    · refine jblk hF [(.aload_n 0, 1), (.bipush 10, 2), (.iload_n 1, 1)] (by decide +kernel) (pc' := 49) (lo' := [(2, (0, ln (mem a 1))), (0, (2, a)), (1, (0, n))]) (st' := [(0, n), (0, 10), (2, a)]) rfl ?_
      refine jcallS hF (c_J9_max_7cf53 hG 10 n (by decide) (by omega)) MW_J9_max_7cf53 wd_488 wd_145 (by decide +kernel) [(2, a)] rfl rfl (by decide) (Nat.le_of_ble_eq_true rfl) (by decide) (kV ?_)
      refine janew hF wd_489 wx_480 (by decide +kernel) (by (split <;> omega)) (by (split <;> omega)) ⟨Nat.le_of_ble_eq_true rfl, by (show 0 + 0 + Int.toNat _ ≤ 100; split <;> omega)⟩ ?_
      obtain ⟨kd_4, hkd_4⟩ : ∃ q : Int → Nat, q = upK kd ((sz : Nat) : Int) (23) := ⟨_, rfl⟩
      obtain ⟨ln_4, hln_4⟩ : ∃ q : Int → Int, q = upL ln ((sz : Nat) : Int) (if 10 < n then n else 10) := ⟨_, rfl⟩
      obtain ⟨m_4, hm_4⟩ : ∃ q : Int → Int → Int, q = newA (-1) mem ((sz : Nat) : Int) := ⟨_, rfl⟩
      obtain ⟨sz_4, hsz_4⟩ : ∃ q : Nat, q = sz + 1 := ⟨_, rfl⟩
      obtain ⟨a_4, ha_4⟩ : ∃ q : Int, q = ((sz : Nat) : Int) := ⟨_, rfl⟩
      rw [← hkd_4, ← hln_4, ← hm_4, ← hsz_4]
      rw [← ha_4]
      have hk_4 : kd_4 a_4 = 23 := by rw [ha_4, hkd_4]; exact if_pos rfl
      have hl_4 : ln_4 a_4 = if 10 < n then n else 10 := by rw [ha_4, hln_4]; exact if_pos rfl
      have hE_4 : EXT kd ln sz kd_4 ln_4 sz_4 := by rw [hsz_4, hkd_4, hln_4]; exact EXT.a _ _
      have hEE_4 : EXT kd ln sz kd_4 ln_4 sz_4 := (EXT.rf).tr hE_4
      have hmo_4 : ∀ b j : Int, b ≠ a_4 → m_4 b j = mem b j := fun b j q => by rw [hm_4]; exact newA_o j (by rw [← ha_4]; exact q)
      have hmn_4 : ∀ j : Int, m_4 a_4 j = (-1) := fun j => by rw [hm_4, ha_4]; exact newA_s j
      have hmoA := hmo_4
      have hmnA := hmn_4
      have hEA := hE_4
      have hkA := hk_4
      have haA := ha_4
      have hszA := hsz_4
      have hEEA := hEE_4
      have hlA := hl_4
      refine jdupx1 hF (by show ¬ (2 : Nat) = 1; decide) (by show ¬ (2 : Nat) = 1; decide) (by decide +kernel) ?_
      have hk3 := (hEA.2 a (by omega)).1.trans l1
      refine jput hF 0 1 2 1 rfl (by decide) (by decide) rfl wd_314 (by decide +kernel) rfl (Or.inr (Or.inr (Or.inr (Or.inr ⟨_, rfl⟩)))) (by first | assumption | omega) (fun h => by cases h) ?_
      refine jwiden (k := 1) (n := 100) (Nat.le_of_ble_eq_true rfl) (by first | exact Nat.le_of_ble_eq_true rfl | (show 0 + 0 + Int.toNat _ ≤ 100; split <;> omega)) ?_
      refine jaret hF hr (Or.inr ⟨_, rfl⟩) (by decide +kernel) ?_
      exact ⟨_, rfl, hEE_4, (by exact ⟨⟨by omega, by omega, by (have h9 := hlA; split at h9 <;> omega), by (have h9 := hlA; split at h9 <;> omega), fun j h1 h2 => by omega, s2_s, fun b j q1 q2 => (if_neg q2).trans (hmoA b j q1)⟩, by omega⟩)⟩
    · refine jblk hF [(.iload_n 2, 1), (.iload_n 1, 1), (.iload_n 2, 1), (.isub, 1), (.iload_n 2, 1)] (by decide +kernel) (pc' := 25) (lo' := [(2, (0, ln (mem a 1))), (0, (2, a)), (1, (0, n))]) (st' := [(0, ln (mem a 1)), (0, n - (ln (mem a 1))), (0, ln (mem a 1))]) rfl ?_
      refine jblk hF [(.iconst 1, 1), (.ishr, 1)] (by decide +kernel) (pc' := 27) (lo' := [(2, (0, ln (mem a 1))), (0, (2, a)), (1, (0, n))]) (st' := [(0, fishr (ln (mem a 1)) 1), (0, n - (ln (mem a 1))), (0, ln (mem a 1))]) rfl ?_
      have hsh : fishr (ln (mem a 1)) 1 = ln (mem a 1) / 2 := by rw [fishr_lit ⟨by omega, by omega⟩ 1 (by decide)]; rfl
      rw [hsh]
      have hmx : (if n - ln (mem a 1) < ln (mem a 1) / 2 then ln (mem a 1) / 2 else n - ln (mem a 1)) ≤ 31 ∧ 1 ≤ (if n - ln (mem a 1) < ln (mem a 1) / 2 then ln (mem a 1) / 2 else n - ln (mem a 1)) := by split <;> omega
      refine jcallS hF (c_J8_newLength_cabcc hG (ln (mem a 1)) (n - (ln (mem a 1))) (ln (mem a 1) / 2) (by omega)) MW_J8_newLength_cabcc wd_446 wd_447 (by decide +kernel) [] rfl rfl (by decide) (Nat.le_of_ble_eq_true rfl) (by decide) (kV ?_)
      refine jblk hF [(.istore_n 3, 1), (.aload_n 0, 1), (.aload_n 0, 1)] (by decide +kernel) (pc' := 33) (lo' := [(3, (0, (ln (mem a 1)) + (if (n - (ln (mem a 1))) < (ln (mem a 1) / 2) then (ln (mem a 1) / 2) else (n - (ln (mem a 1)))))), (2, (0, ln (mem a 1))), (0, (2, a)), (1, (0, n))]) (st' := [(2, a), (2, a)]) rfl ?_
      refine jget hF 0 1 2 1 rfl (by decide) (by decide) rfl wd_314 (by decide +kernel) (by first | assumption | omega) ?_
      refine jblk hF [(.iload_n 3, 1)] (by decide +kernel) (pc' := 37) (lo' := [(3, (0, (ln (mem a 1)) + (if (n - (ln (mem a 1))) < (ln (mem a 1) / 2) then (ln (mem a 1) / 2) else (n - (ln (mem a 1)))))), (2, (0, ln (mem a 1))), (0, (2, a)), (1, (0, n))]) (st' := [(0, (ln (mem a 1)) + (if (n - (ln (mem a 1))) < (ln (mem a 1) / 2) then (ln (mem a 1) / 2) else (n - (ln (mem a 1))))), (2, mem a 1), (2, a)]) rfl ?_
      refine jcallS hF (c_copyOf2 hG hMI (mem a 1) ((ln (mem a 1)) + (if (n - (ln (mem a 1))) < (ln (mem a 1) / 2) then (ln (mem a 1) / 2) else (n - (ln (mem a 1))))) (by assumption) (by omega) (by omega) (by omega) (by assumption)) MW_J7_copyOf_1904c wd_454 wd_455 (by decide +kernel) [(2, a)] rfl rfl (by decide) (Nat.le_of_ble_eq_true rfl) (by decide) (kXR (fun v_5 kd_5 ln_5 m_5 sz_5 hE_5 h_5 => ?_))
      have hEE_5 : EXT kd ln sz kd_5 ln_5 sz_5 := (EXT.rf).tr hE_5
      obtain ⟨hq1, hq2, hq3, hq4, hq5, hq6⟩ := h_5
      have hk2 : kd_5 a = 1 := (hE_5.2 a (by omega)).1.trans l1
      refine jdupx1 hF (by show ¬ (2 : Nat) = 1; decide) (by show ¬ (2 : Nat) = 1; decide) (by decide +kernel) ?_
      refine jput hF 0 1 2 1 rfl (by decide) (by decide) rfl wd_314 (by decide +kernel) rfl (Or.inr (Or.inr (Or.inr (Or.inr ⟨_, rfl⟩)))) (by first | assumption | omega) (fun h => by cases h) ?_
      refine jwiden (k := 1) (n := 100) (Nat.le_of_ble_eq_true rfl) (by first | exact Nat.le_of_ble_eq_true rfl | (show 0 + 0 + Int.toNat _ ≤ 100; split <;> omega)) ?_
      refine jaret hF hr (Or.inr ⟨_, rfl⟩) (by decide +kernel) ?_
      exact ⟨_, rfl, hEE_5, (by exact ⟨⟨hq1, hq3, by omega, by omega, fun j h1 h2 => by rw [s2_a (by omega)]; exact hq6 j h1 h2, s2_s, fun b j q1 q2 => (if_neg q2).trans (hq5 b j q1)⟩, by omega⟩)⟩
set_option maxHeartbeats 4000000 in
set_option maxRecDepth 100000 in
theorem c_Jx4a65c_grow_d5877 {l : Launch} {g : GP} (hG : GH g) {kd : Int → Nat} {ln : Int → Int} {mem : Int → Int → Int} {sz : Nat} (a : Int) (hEM : EMP g) (mi : Nat) (hMI : va_Mi "[Ljava/lang/Object;" mi (gs g)) (hL : LSO kd ln mem sz a) (hEL : ELS kd (mem (mem a 1)) (mem a 2)) (hn0 : mem a 2 = ln (mem a 1)) : MT l g yJx4a65c_grow_d5877 cJx4a65c_grow_d5877 1 (some (.array (.object "java/lang/Object"))) 4 1 100 [(2, a)] kd ln mem sz (pXR 2 (fun v kd' ln' mem' sz' => (GRW kd ln mem sz a v kd' ln' mem' ∧ v < sz')) kd ln sz) := by
  refine MT_of hG (by decide +kernel) (Nat.le_of_ble_eq_true rfl) (fun z hF hr hn => ?_)
  obtain ⟨l1, l2, l2b, l3, l4, l5, l6, l7, l8, l9, l10, l11⟩ := id hL
  refine jblk hF [(.aload_n 0, 1), (.aload_n 0, 1)] (by decide +kernel) (pc' := 2) (lo' := [(0, (2, a))]) (st' := [(2, a), (2, a)]) rfl ?_
  refine jget hF 0 2 0 2 rfl (by decide) (by decide) rfl wd_315 (by decide +kernel) (by first | assumption | omega) ?_
  refine jblk hF [(.iconst 1, 1), (.iadd, 1)] (by decide +kernel) (pc' := 7) (lo' := [(0, (2, a))]) (st' := [(0, (mem a 2) + 1), (2, a)]) rfl ?_
  refine jcallV hF (c_Jx4a65c_grow_92f84 hG a ((mem a 2) + 1) (by assumption) (by exact mi) (by assumption) (by first | assumption | omega) (by assumption) (by omega)) MW_Jx4a65c_grow_92f84 0 (by decide) (by first | assumption | omega) wd_442 wd_444 wd_p4 (by decide +kernel) [] rfl rfl (by decide) (Nat.le_of_ble_eq_true rfl) (by decide) (kXR (fun v_1 kd_1 ln_1 m_1 sz_1 hE_1 h_1 => ?_))
  have hEE_1 : EXT kd ln sz kd_1 ln_1 sz_1 := (EXT.rf).tr hE_1
  have hqq := h_1
  refine jwiden (k := 1) (n := 100) (Nat.le_of_ble_eq_true rfl) (Nat.le_of_ble_eq_true rfl) ?_
  refine jaret hF hr (Or.inr ⟨_, rfl⟩) (by decide +kernel) ?_
  exact ⟨_, rfl, hEE_1, (by exact hqq)⟩
set_option maxHeartbeats 4000000 in
set_option maxRecDepth 100000 in
theorem c_Jx4a65c_add_72be8 {l : Launch} {g : GP} (hG : GH g) {kd : Int → Nat} {ln : Int → Int} {mem : Int → Int → Int} {sz : Nat} (a : Int) (e d s : Int) (hEM : EMP g) (mi : Nat) (hMI : va_Mi "[Ljava/lang/Object;" mi (gs g)) (hL : LSO kd ln mem sz a) (hEL : ELS kd (mem (mem a 1)) (mem a 2)) (c : Nat) (hc : c < 14) (hke : kd e = c + 1) (hes : e < sz) (hca : Cond.castable (cRec c).1 "java/lang/Object" ∈ lw_tbl) (hds : d = mem a 1 ∧ s = mem a 2) : MT l g yJx4a65c_add_72be8 cJx4a65c_add_72be8 4 none 5 1 100 [(2, a), (2, e), (2, d), (0, s)] kd ln mem sz (pXV (fun kd' ln' mem' sz' => (ADDP ln mem sz a e kd' ln' mem' ∧ mem' a 1 < sz')) kd ln sz) := by
  refine MT_of hG (by decide +kernel) (Nat.le_of_ble_eq_true rfl) (fun z hF hr hn => ?_)
  obtain ⟨l1, l2, l2b, l3, l4, l5, l6, l7, l8, l9, l10, l11⟩ := id hL
  obtain ⟨hd1, hs1⟩ := id hds
  have hkd1 : kd d = 23 := by rw [hd1]; exact l3
  have hld : ln d = ln (mem a 1) := by rw [hd1]
  have hda : d ≠ a := fun q => by rw [q] at hkd1; omega
  refine jblk hF [(.iload_n 3, 1), (.aload_n 2, 1)] (by decide +kernel) (pc' := 2) (lo' := [(0, (2, a)), (1, (2, e)), (2, (2, d)), (3, (0, s))]) (st' := [(2, d), (0, s)]) rfl ?_
  refine jalen hF 3 (by decide) (by decide +kernel) (by first | assumption | omega) ?_
  refine jicmp_ne hF (off := 8) 11 (by decide +kernel) (by decide) (by omega) (by omega) (fun h_1 => ?_) (fun h_1 => ?_)
  · refine jblk hF [(.aload_n 2, 1), (.iload_n 3, 1), (.aload_n 1, 1)] (by decide +kernel) (pc' := 14) (lo' := [(0, (2, a)), (1, (2, e)), (2, (2, d)), (3, (0, s))]) (st' := [(2, e), (0, s), (2, d)]) rfl ?_
    refine jaast hF c (by assumption) (by first | assumption | omega) hca wx_480 (by decide +kernel) (by omega) (by first | assumption | omega) (by omega) (by omega) ?_
    refine jblk hF [(.aload_n 0, 1), (.iload_n 3, 1), (.iconst 1, 1), (.iadd, 1)] (by decide +kernel) (pc' := 19) (lo' := [(0, (2, a)), (1, (2, e)), (2, (2, d)), (3, (0, s))]) (st' := [(0, s + 1), (2, a)]) rfl ?_
    refine jput hF 0 2 0 2 rfl (by decide) (by decide) rfl wd_315 (by decide +kernel) rfl (Or.inl rfl) (by first | assumption | omega) (fun h => by cases h) ?_
    refine jwiden (k := 1) (n := 100) (Nat.le_of_ble_eq_true rfl) (Nat.le_of_ble_eq_true rfl) ?_
    refine jvret hF hr (by decide +kernel) ?_
    exact ⟨rfl, EXT.rf, (by first | exact ⟨ADDP.of (hd1.symm) hda hkd1 (by omega) (Or.inl hd1) (by omega) hs1 (fun b j _ _ => rfl) (fun j _ _ => by rw [hd1]), by rw [(s2_k (by decide)).trans (s2_a (fun q => hda q.symm)), ← hd1]; omega⟩ | exact ⟨ADDP.of hq6 (by omega) hq2 (by omega) (Or.inr hq1) (by omega) hs1 (fun b j q1 q2 => hq7 b j q2 (by omega)) (fun j q1 q2 => hq5 j q1 (by omega)), by rw [(s2_k (by decide)).trans (s2_a (by omega)), hq6]; exact hqz⟩)⟩
  · refine jblk hF [(.aload_n 0, 1)] (by decide +kernel) (pc' := 7) (lo' := [(0, (2, a)), (1, (2, e)), (2, (2, d)), (3, (0, s))]) (st' := [(2, a)]) rfl ?_
    refine jcallV hF (c_Jx4a65c_grow_d5877 hG a (by assumption) (by exact mi) (by assumption) (by first | assumption | omega) (by assumption) (by omega)) MW_Jx4a65c_grow_d5877 0 (by decide) (by first | assumption | omega) wd_438 wd_440 wd_p3 (by decide +kernel) [] rfl rfl (by decide) (Nat.le_of_ble_eq_true rfl) (by decide) (kXR (fun v_2 kd_2 ln_2 m_2 sz_2 hE_2 h_2 => ?_))
    have hEE_2 : EXT kd ln sz kd_2 ln_2 sz_2 := (EXT.rf).tr hE_2
    obtain ⟨⟨hq1, hq2, hq3, hq4, hq5, hq6, hq7⟩, hqz⟩ := h_2
    have hk2 : kd_2 a = 1 := (hE_2.2 a (by omega)).1.trans l1
    have hk3 : kd_2 e = c + 1 := (hE_2.2 e (by omega)).1.trans hke
    have hm2 : m_2 a 2 = mem a 2 := hq7 a 2 (by omega) (by omega)
    refine jblk hF [(.astore_n 2, 1), (.aload_n 2, 1), (.iload_n 3, 1), (.aload_n 1, 1)] (by decide +kernel) (pc' := 14) (lo' := [(2, (2, v_2)), (0, (2, a)), (1, (2, e)), (3, (0, s))]) (st' := [(2, e), (0, s), (2, v_2)]) rfl ?_
    refine jaast hF c (by assumption) (by first | assumption | omega) hca wx_480 (by decide +kernel) (by omega) (by first | assumption | omega) (by omega) (by omega) ?_
    refine jblk hF [(.aload_n 0, 1), (.iload_n 3, 1), (.iconst 1, 1), (.iadd, 1)] (by decide +kernel) (pc' := 19) (lo' := [(2, (2, v_2)), (0, (2, a)), (1, (2, e)), (3, (0, s))]) (st' := [(0, s + 1), (2, a)]) rfl ?_
    refine jput hF 0 2 0 2 rfl (by decide) (by decide) rfl wd_315 (by decide +kernel) rfl (Or.inl rfl) (by first | assumption | omega) (fun h => by cases h) ?_
    refine jwiden (k := 1) (n := 100) (Nat.le_of_ble_eq_true rfl) (Nat.le_of_ble_eq_true rfl) ?_
    refine jvret hF hr (by decide +kernel) ?_
    exact ⟨rfl, hEE_2, (by first | exact ⟨ADDP.of (hd1.symm) hda hkd1 (by omega) (Or.inl hd1) (by omega) hs1 (fun b j _ _ => rfl) (fun j _ _ => by rw [hd1]), by rw [(s2_k (by decide)).trans (s2_a (fun q => hda q.symm)), ← hd1]; omega⟩ | exact ⟨ADDP.of hq6 (by omega) hq2 (by omega) (Or.inr hq1) (by omega) hs1 (fun b j q1 q2 => hq7 b j q2 (by omega)) (fun j q1 q2 => hq5 j q1 (by omega)), by rw [(s2_k (by decide)).trans (s2_a (by omega)), hq6]; exact hqz⟩)⟩
set_option maxHeartbeats 4000000 in
set_option maxRecDepth 100000 in
theorem c_Jx4a65c_add_9ea2d {l : Launch} {g : GP} (hG : GH g) {kd : Int → Nat} {ln : Int → Int} {mem : Int → Int → Int} {sz : Nat} (a : Int) (e : Int) (hEM : EMP g) (mi : Nat) (hMI : va_Mi "[Ljava/lang/Object;" mi (gs g)) (hL : LSO kd ln mem sz a) (hEL : ELS kd (mem (mem a 1)) (mem a 2)) (c : Nat) (hc : c < 14) (hke : kd e = c + 1) (hes : e < sz) (hca : Cond.castable (cRec c).1 "java/lang/Object" ∈ lw_tbl) : MT l g yJx4a65c_add_9ea2d cJx4a65c_add_9ea2d 2 (some .boolean) 6 1 100 [(2, a), (2, e)] kd ln mem sz (pXR 0 (fun v kd' ln' mem' sz' => (v = 1 ∧ ADDP ln mem sz a e kd' ln' mem' ∧ mem' a 1 < sz')) kd ln sz) := by
  refine MT_of hG (by decide +kernel) (Nat.le_of_ble_eq_true rfl) (fun z hF hr hn => ?_)
  obtain ⟨l1, l2, l2b, l3, l4, l5, l6, l7, l8, l9, l10, l11⟩ := id hL
  refine jblk hF [(.aload_n 0, 1), (.dup, 1)] (by decide +kernel) (pc' := 2) (lo' := [(0, (2, a)), (1, (2, e))]) (st' := [(2, a), (2, a)]) rfl ?_
  refine jgetS hF 0 0 0 0 rfl (by decide) (by decide) rfl wd_317 wx_318 (by decide +kernel) (by first | assumption | omega) ?_
  refine jblk hF [(.iconst 1, 1), (.iadd, 1)] (by decide +kernel) (pc' := 7) (lo' := [(0, (2, a)), (1, (2, e))]) (st' := [(0, (mem a 0) + 1), (2, a)]) rfl ?_
  refine jputS hF 0 0 0 0 rfl (by decide) (by decide) rfl wd_317 wx_318 (by decide +kernel) rfl (Or.inl rfl) (by first | assumption | omega) (fun h => by cases h) ?_
  have g1 : (set2 mem a 0 ((mem a 0) + 1)) a 1 = mem a 1 := s2_k (by decide)
  have g2 : (set2 mem a 0 ((mem a 0) + 1)) a 2 = mem a 2 := s2_k (by decide)
  have hga : mem a 1 ≠ a := fun q => by rw [q] at l3; omega
  have g3 : ∀ j : Int, (set2 mem a 0 ((mem a 0) + 1)) (mem a 1) j = mem (mem a 1) j := fun j => s2_a hga
  have hL2 : LSO kd ln (set2 mem a 0 ((mem a 0) + 1)) sz a := by unfold LSO; rw [g1, g2]; exact hL
  have hEL2 : ELS kd ((set2 mem a 0 ((mem a 0) + 1)) ((set2 mem a 0 ((mem a 0) + 1)) a 1)) ((set2 mem a 0 ((mem a 0) + 1)) a 2) := by rw [g1, g2]; intro j q1 q2; rw [g3]; exact hEL j q1 q2
  refine jblk hF [(.aload_n 0, 1), (.aload_n 1, 1), (.aload_n 0, 1)] (by decide +kernel) (pc' := 13) (lo' := [(0, (2, a)), (1, (2, e))]) (st' := [(2, a), (2, e), (2, a)]) rfl ?_
  refine jget hF 0 1 2 1 rfl (by decide) (by decide) rfl wd_314 (by decide +kernel) (by first | assumption | omega) ?_
  rw [show (set2 mem a 0 ((mem a 0) + 1)) a 1 = mem a 1 from (s2_k (by decide))]
  refine jblk hF [(.aload_n 0, 1)] (by decide +kernel) (pc' := 17) (lo' := [(0, (2, a)), (1, (2, e))]) (st' := [(2, a), (2, mem a 1), (2, e), (2, a)]) rfl ?_
  refine jget hF 0 2 0 2 rfl (by decide) (by decide) rfl wd_315 (by decide +kernel) (by first | assumption | omega) ?_
  rw [show (set2 mem a 0 ((mem a 0) + 1)) a 2 = mem a 2 from (s2_k (by decide))]
  refine jcallV hF (c_Jx4a65c_add_72be8 hG a e (mem a 1) (mem a 2) (by assumption) (by exact mi) (by assumption) (by first | assumption | omega) (by assumption) (by exact c) (by assumption) (by first | assumption | omega) (by omega) (by assumption) (by first | exact ⟨rfl, rfl⟩ | exact ⟨g1.symm, g2.symm⟩)) MW_Jx4a65c_add_72be8 0 (by decide) (by first | assumption | omega) wd_434 wd_436 wd_p2 (by decide +kernel) [] rfl rfl (by decide) (Nat.le_of_ble_eq_true rfl) (by decide) (kXV (fun kd_1 ln_1 m_1 sz_1 hE_1 h_1 => ?_))
  have hEE_1 : EXT kd ln sz kd_1 ln_1 sz_1 := (EXT.rf).tr hE_1
  obtain ⟨haq, haz⟩ := h_1
  unfold ADDP at haq
  rw [g1, g2] at haq
  have haq2 : ADDP ln mem sz a e kd_1 ln_1 m_1 := ⟨haq.1, haq.2.1, haq.2.2.1, haq.2.2.2.1, haq.2.2.2.2.1, haq.2.2.2.2.2.1, haq.2.2.2.2.2.2.1, fun j q1 q2 => (haq.2.2.2.2.2.2.2.1 j q1 q2).trans (g3 j), fun b j q1 q2 => (haq.2.2.2.2.2.2.2.2 b j q1 q2).trans (s2_a q1)⟩
  refine jblk hF [(.iconst 1, 1)] (by decide +kernel) (pc' := 24) (lo' := [(0, (2, a)), (1, (2, e))]) (st' := [(0, 1)]) rfl ?_
  refine jwiden (k := 1) (n := 100) (Nat.le_of_ble_eq_true rfl) (Nat.le_of_ble_eq_true rfl) ?_
  refine jzret hF hr (by omega) (by decide +kernel) ?_
  exact ⟨_, rfl, hEE_1, (by exact ⟨rfl, haq2, haz⟩)⟩
end
