section
/-- a press slip in the house's cells -/
def prsX (mem : Int → Int → Int) (p n j f : Int) : Int → Int → Int := set2 (set2 mem 3 4 (mem 35 72 + (if psN mem p n j (mem 35 72).toNat = mem 35 72 then 1 else 0))) (mem (mem (mem 29 1) p) 18) n (nibP (mem (mem (mem (mem 29 1) p) 18) n) j (f + 1))
section
variable {kd : Int → Nat} {ln : Int → Int} {mem M' : Int → Int → Int} {sz : Nat} {tg : Int → Int} {p n j f : Int}
theorem psN_bd (mem : Int → Int → Int) (p n j : Int) : ∀ k : Nat, (k : Int) ≤ mem 35 72 → (0 ≤ psN mem p n j k ∧ psN mem p n j k ≤ mem 35 72) ∧ (psN mem p n j k = mem 35 72 ∨ (psN mem p n j k < k ∧ mem 84 (psN mem p n j k) = p ∧ mem 85 (psN mem p n j k) = n ∧ mem 86 (psN mem p n j k) = j)) := by
  intro k
  induction k with
  | zero => intro h; exact ⟨⟨by show 0 ≤ mem 35 72; omega, Int.le_refl _⟩, Or.inl rfl⟩
  | succ k ih =>
    intro h
    have i2 := ih (by omega)
    unfold psN
    by_cases w : mem 84 k = p ∧ mem 85 k = n ∧ mem 86 k = j
    · rw [if_pos w]; exact ⟨by omega, Or.inr ⟨by omega, w⟩⟩
    · rw [if_neg w]; exact ⟨i2.1, i2.2.imp id (fun u => ⟨by omega, u.2⟩)⟩
theorem pv_ps (hR : PRS mem) : ∀ k : Nat, (k : Int) ≤ mem 35 72 → (pvN mem p n j k = 0 ↔ psN mem p n j k = mem 35 72) := by
  intro k
  induction k with
  | zero => intro _; exact ⟨fun _ => rfl, fun _ => rfl⟩
  | succ k ih =>
    intro h
    have g := hR.2.2 k (by omega) (by omega)
    unfold pvN psN
    by_cases w : mem 84 k = p ∧ mem 85 k = n ∧ mem 86 k = j
    · rw [if_pos w, if_pos w]; constructor <;> intro u <;> omega
    · rw [if_neg w, if_neg w]; exact ih (by omega)
/-- what is pressed, when one more is -/
theorem pv_pre {P N J : Int} (hR : PRS mem) : pvN (preM mem p n j f) P N J (preM mem p n j f 35 72).toNat = if P = p ∧ N = n ∧ J = j then f + 1 else pvN mem P N J (mem 35 72).toNat := by
  obtain ⟨b1, b2⟩ := psN_bd mem p n j (mem 35 72).toNat (by have := hR.1; omega)
  have hR0 := hR.1
  obtain ⟨i0, hi0⟩ : ∃ y : Int, y = psN mem p n j (mem 35 72).toNat := ⟨_, rfl⟩
  have e72 : preM mem p n j f 35 72 = mem 35 72 + (if i0 = mem 35 72 then 1 else 0) := by rw [hi0]; unfold preM; exact s2_s
  have e84 : ∀ s : Int, preM mem p n j f 84 s = if s = i0 then p else mem 84 s := fun s => by
    rw [hi0]; unfold preM; rw [s2_a (by decide), s2_a (by decide), s2_a (by decide), s2_a (by decide)]
    unfold set2; split <;> split <;> omega
  have e85 : ∀ s : Int, preM mem p n j f 85 s = if s = i0 then n else mem 85 s := fun s => by
    rw [hi0]; unfold preM; rw [s2_a (by decide), s2_a (by decide), s2_a (by decide)]
    unfold set2; (repeat' split) <;> omega
  have e86 : ∀ s : Int, preM mem p n j f 86 s = if s = i0 then j else mem 86 s := fun s => by
    rw [hi0]; unfold preM; rw [s2_a (by decide), s2_a (by decide)]
    unfold set2; (repeat' split) <;> omega
  have e87 : ∀ s : Int, preM mem p n j f 87 s = if s = i0 then f else mem 87 s := fun s => by
    rw [hi0]; unfold preM; rw [s2_a (by decide)]
    unfold set2; (repeat' split) <;> omega
  rw [← hi0] at b1 b2
  obtain ⟨M', hM'⟩ : ∃ y : Int → Int → Int, y = preM mem p n j f := ⟨_, rfl⟩
  rw [← hM'] at e72 e84 e85 e86 e87 ⊢
  by_cases w : P = p ∧ N = n ∧ J = j
  · rw [if_pos w, w.1, w.2.1, w.2.2]
    by_cases c : i0 = mem 35 72
    · rw [e72, if_pos c, show (mem 35 72 + 1).toNat = (mem 35 72).toNat + 1 by omega]
      unfold pvN
      rw [e84, e85, e86, e87, if_pos (show (((mem 35 72).toNat : Nat) : Int) = i0 by omega), if_pos (show (((mem 35 72).toNat : Nat) : Int) = i0 by omega), if_pos (show (((mem 35 72).toNat : Nat) : Int) = i0 by omega), if_pos (show (((mem 35 72).toNat : Nat) : Int) = i0 by omega), if_pos ⟨rfl, rfl, rfl⟩]
    · rw [e72, if_neg c, Int.add_zero]
      have : ∀ k : Nat, (k : Int) ≤ mem 35 72 → i0 = psN mem p n j k → pvN M' p n j k = f + 1 := by
        intro k
        induction k with
        | zero => intro _ q; exact absurd q c
        | succ k ih =>
          intro hk q
          unfold psN at q
          unfold pvN
          by_cases u : mem 84 k = p ∧ mem 85 k = n ∧ mem 86 k = j
          · rw [if_pos u] at q
            rw [e84, e85, e86, e87, if_pos q.symm, if_pos q.symm, if_pos q.symm, if_pos q.symm, if_pos ⟨rfl, rfl, rfl⟩]
          · rw [if_neg u] at q
            have hlt := psN_bd mem p n j k (by omega)
            rw [← q] at hlt
            have hne : ¬ (k : Int) = i0 := by omega
            rw [e84, e85, e86, if_neg hne, if_neg hne, if_neg hne, if_neg u]
            exact ih (by omega) q
      exact this _ (by omega) hi0
  · rw [if_neg w]
    have : ∀ k : Nat, (k : Int) ≤ mem 35 72 → pvN M' P N J k = pvN mem P N J k := by
      intro k
      induction k with
      | zero => intro _; rfl
      | succ k ih =>
        intro hk
        unfold pvN
        rw [ih (by omega)]
        by_cases u : (k : Int) = i0
        · rw [e84, e85, e86, if_pos u, if_pos u, if_pos u, if_neg (fun x => w ⟨x.1.symm, x.2.1.symm, x.2.2.symm⟩)]
          have b3 := b2.resolve_left (by omega)
          rw [u, if_neg (fun x => w ⟨by omega, by omega, by omega⟩)]
        · rw [e84, e85, e86, e87, if_neg u, if_neg u, if_neg u, if_neg u]
    by_cases c : i0 = mem 35 72
    · rw [e72, if_pos c, show (mem 35 72 + 1).toNat = (mem 35 72).toNat + 1 by omega]
      have es : pvN M' P N J ((mem 35 72).toNat + 1) = if M' 84 (mem 35 72).toNat = P ∧ M' 85 (mem 35 72).toNat = N ∧ M' 86 (mem 35 72).toNat = J then M' 87 (mem 35 72).toNat + 1 else pvN M' P N J (mem 35 72).toNat := rfl
      rw [es, e84, e85, e86, if_pos (show (((mem 35 72).toNat : Nat) : Int) = i0 by omega), if_pos (show (((mem 35 72).toNat : Nat) : Int) = i0 by omega), if_pos (show (((mem 35 72).toNat : Nat) : Int) = i0 by omega), if_neg (fun x => w ⟨x.1.symm, x.2.1.symm, x.2.2.symm⟩)]
      exact this _ (by omega)
    · rw [e72, if_neg c, Int.add_zero]
      exact this _ (by omega)
theorem preM_o {x i : Int} (h : ¬ (84 ≤ x ∧ x ≤ 87) ∧ ¬ (x = 35 ∧ i = 72)) : preM mem p n j f x i = mem x i := by
  unfold preM set2
  rw [if_neg (by omega), if_neg (by omega), if_neg (by omega), if_neg (by omega), if_neg (by omega)]
end
set_option maxHeartbeats 4000000 in
set_option maxRecDepth 100000 in
theorem c_X11_press {l : Launch} {g : GP} (hG : GH g) {kd : Int → Nat} {ln : Int → Int} {mem : Int → Int → Int} {sz : Nat} (hK : HK kd ln) (hR : HR mem) (p n j f : Int) (tg : Int → Int) (hI : INV kd ln mem sz tg) (h_p : InI p) (h_n : InI n) (h_j : InI j) (h_f : InI f) : MT l g yX11_press cX11_press 7 (some .boolean) 6 0 0 [(2, 3), (0, p), (0, n), (0, j), (0, f)] kd ln mem sz (pMB (fun c mem' => HR mem' ∧ ((c ↔ preC mem p n j f) ∧ mem' = (if preC mem p n j f then prsX mem p n j f else mem))) kd ln sz) := by
  refine MT_of hG (by decide +kernel) (Nat.le_of_ble_eq_true rfl) (fun z hF hr hn => ?_)
  obtain ⟨⟨q0, q1, q2, q3, q4, q5⟩, u0, u2, u46, u89, usz⟩ := hI.num
  have n29 : 0 ≤ mem 35 33 ∧ mem 35 33 ≤ 12 := ⟨hI.pgs.1, hI.pgs.2.1⟩
  obtain ⟨e29, k29, r29, b29, c29⟩ := hI.g29.ls
  refine jblk hF [(.aload_n 0, 1), (.iload_n 1, 1), (.iload_n 2, 1)] (by decide +kernel) (pc' := 3) (lo' := [(0, (2, 3)), (1, (0, p)), (2, (0, n)), (3, (0, j)), (4, (0, f))]) (st' := [(0, n), (0, p), (2, 3)]) rfl ?_
  refine jcallV hF (c_X11_plateWith hG hK hR p n (by exact tg) (by assumption) (by omega) (by omega)) MW_X11_plateWith 12 (by decide) (by exact hK.k3) wd_1135 wd_1137 wd_p37 (by decide +kernel) [] rfl rfl (by decide) (Nat.le_of_ble_eq_true rfl) (by decide) (kR (fun v_1 h_2 => ?_))
  have hv := h_2
  refine jblk hF [(.astore 5, 2), (.aload 5, 2)] (by decide +kernel) (pc' := 10) (lo' := [(5, (2, v_1)), (0, (2, 3)), (1, (0, p)), (2, (0, n)), (3, (0, j)), (4, (0, f))]) (st' := [(2, v_1)]) rfl ?_
  refine jnull hF (off := 24) 34 (by decide +kernel) (by decide) (fun h_3 => ?_) (fun h_3 => ?_)
  · have hng : ¬ preC mem p n j f := fun u => by first | omega | exact (hv.2 (by omega)).1 ⟨u.2.1, u.1.2⟩
    refine jblk hF [(.iconst 0, 1)] (by decide +kernel) (pc' := 35) (lo' := [(5, (2, v_1)), (0, (2, 3)), (1, (0, p)), (2, (0, n)), (3, (0, j)), (4, (0, f))]) (st' := [(0, 0)]) rfl ?_
    refine jzret hF hr (by omega) (by decide +kernel) ?_
    exact lMB0 ⟨hR, by exact ⟨⟨fun u => u.elim, fun u => absurd u hng⟩, (if_neg hng).symm⟩⟩
  · obtain ⟨hpg, hpo⟩ := hv.1 (by omega)
    have hplt := hpo.plt hpg.2
    have h18 := hpo.r8 (k := 18) (by decide)
    have hrs := hI.prs
    have hgn := hpo.nm
    have hn2 := hgn.2.2.1
    have hk := hpo.at
    have hpb := hpo.pb
    have hwa := hpo.wa
    refine jblk hF [(.iload_n 3, 1), (.iconst 0, 1), (.bipush 12, 2)] (by decide +kernel) (pc' := 17) (lo' := [(5, (2, v_1)), (0, (2, 3)), (1, (0, p)), (2, (0, n)), (3, (0, j)), (4, (0, f))]) (st' := [(0, 12), (0, 0), (0, j)]) rfl ?_
    refine jcallS hF (c_X11_within hG j 0 12 (by omega) (by decide) (by decide)) MW_X11_within wd_391 wd_392 (by decide +kernel) [] rfl rfl (by decide) (Nat.le_of_ble_eq_true rfl) (by decide) (kB (fun h_4 => ?_) (fun h_4 => ?_))
    · refine jif_eq hF (off := 14) 34 (by decide +kernel) (by decide) (by decide) (fun h => absurd h (by decide)) (fun _ => ?_)
      refine jblk hF [(.iload 4, 2), (.iconst 0, 1), (.bipush 9, 2)] (by decide +kernel) (pc' := 28) (lo' := [(5, (2, v_1)), (0, (2, 3)), (1, (0, p)), (2, (0, n)), (3, (0, j)), (4, (0, f))]) (st' := [(0, 9), (0, 0), (0, f)]) rfl ?_
      refine jcallS hF (c_X11_within hG f 0 9 (by omega) (by decide) (by decide)) MW_X11_within wd_391 wd_392 (by decide +kernel) [] rfl rfl (by decide) (Nat.le_of_ble_eq_true rfl) (by decide) (kB (fun h_6 => ?_) (fun h_6 => ?_))
      · refine jif_ne hF (off := 5) 36 (by decide +kernel) (by decide) (by decide) (fun _ => ?_) (fun h => absurd h (by decide))
        have hpv := (hpo.2.1.2.2.2.2 n (by omega) (by omega)).2 j (by omega) (by omega)
        have hps := pv_ps (p := p) (n := n) (j := j) hrs (mem 35 72).toNat (by have := hrs.1; omega)
        have hpb2 := psN_bd mem p n j (mem 35 72).toNat (by have := hrs.1; omega)
        have hrs1 := hrs.1
        have hrs2 := hrs.2.1
        rw [← hpv] at hps
        refine jblk hF [(.aload 5, 2), (.iload_n 2, 1), (.iload_n 3, 1)] (by decide +kernel) (pc' := 40) (lo' := [(5, (2, v_1)), (0, (2, 3)), (1, (0, p)), (2, (0, n)), (3, (0, j)), (4, (0, f))]) (st' := [(0, j), (0, n), (2, v_1)]) rfl ?_
        refine jcallV hF (c_X3_isPressed hG v_1 n j (by exact hk.1) (by omega) (by exact ⟨h18.1, h18.2.1, by omega⟩) (by omega) (by omega) (by exact hwa n (by omega) (by omega))) MW_X3_isPressed 4 (by decide) (by first | exact hk.1 | assumption | omega) wd_1143 wd_1113 wd_1114 (by decide +kernel) [] rfl rfl (by decide) (Nat.le_of_ble_eq_true rfl) (by decide) (kB (fun h_8 => ?_) (fun h_8 => ?_))
        · refine jif_eq hF (off := 7) 50 (by decide +kernel) (by decide) (by decide) (fun h => absurd h (by decide)) (fun _ => ?_)
          refine jblk hF [(.iconst 0, 1)] (by decide +kernel) (pc' := 47) (lo' := [(5, (2, v_1)), (0, (2, 3)), (1, (0, p)), (2, (0, n)), (3, (0, j)), (4, (0, f))]) (st' := [(0, 0)]) rfl ?_
          refine jgoto hF (off := 4) 51 (by decide +kernel) (by decide) ?_
          refine jblk hF [(.istore 6, 2), (.aload_n 0, 1)] (by decide +kernel) (pc' := 54) (lo' := [(6, (0, 0)), (5, (2, v_1)), (0, (2, 3)), (1, (0, p)), (2, (0, n)), (3, (0, j)), (4, (0, f))]) (st' := [(2, 3)]) rfl ?_
          refine jget hF 12 4 0 4 rfl (by decide) (by decide) rfl wd_330 (by decide +kernel) (by exact hK.k3) ?_
          refine jblk hF [(.iload 6, 2), (.iadd, 1), (.bipush 80, 2)] (by decide +kernel) (pc' := 62) (lo' := [(6, (0, 0)), (5, (2, v_1)), (0, (2, 3)), (1, (0, p)), (2, (0, n)), (3, (0, j)), (4, (0, f))]) (st' := [(0, 80), (0, (mem 3 4) + 0)]) rfl ?_
          refine jicmp_le hF (off := 5) 67 (by decide +kernel) (by decide) (by omega) (by decide) (fun h_10 => ?_) (fun h_10 => ?_)
          · have hcc : preC mem p n j f := ⟨⟨hpg.1.1, hpg.2⟩, hpg.1, by omega, by omega, fun u => by omega⟩
            have e18 : ∀ w : Int, set2 mem 3 4 w v_1 18 = mem v_1 18 := fun w => s2_a (by omega)
            have ew : ∀ w i : Int, set2 mem 3 4 w (mem v_1 18) i = mem (mem v_1 18) i := fun w i => s2_a (by omega)
            refine jblk hF [(.aload_n 0, 1), (.dup, 1)] (by decide +kernel) (pc' := 69) (lo' := [(6, (0, 0)), (5, (2, v_1)), (0, (2, 3)), (1, (0, p)), (2, (0, n)), (3, (0, j)), (4, (0, f))]) (st' := [(2, 3), (2, 3)]) rfl ?_
            refine jget hF 12 4 0 4 rfl (by decide) (by decide) rfl wd_330 (by decide +kernel) (by exact hK.k3) ?_
            refine jblk hF [(.iload 6, 2), (.iadd, 1)] (by decide +kernel) (pc' := 75) (lo' := [(6, (0, 0)), (5, (2, v_1)), (0, (2, 3)), (1, (0, p)), (2, (0, n)), (3, (0, j)), (4, (0, f))]) (st' := [(0, (mem 3 4) + 0), (2, 3)]) rfl ?_
            refine jput hF 12 4 0 4 rfl (by decide) (by decide) rfl wd_330 (by decide +kernel) rfl (Or.inl rfl) (by exact hK.k3) (fun h => by cases h) ?_
            refine jblk hF [(.aload 5, 2), (.iload_n 2, 1), (.iload_n 3, 1), (.iload 4, 2)] (by decide +kernel) (pc' := 84) (lo' := [(6, (0, 0)), (5, (2, v_1)), (0, (2, 3)), (1, (0, p)), (2, (0, n)), (3, (0, j)), (4, (0, f))]) (st' := [(0, f), (0, j), (0, n), (2, v_1)]) rfl ?_
            refine jcallV hF (c_X3_pressFigure hG v_1 n j f (by exact hk.1) (by omega) (by (rw [e18]; exact ⟨h18.1, h18.2.1, by omega⟩)) (by (rw [s2_a (by omega)]; omega)) (by omega) (by (rw [e18, ew]; exact hwa n (by omega) (by omega))) (by omega)) MW_X3_pressFigure 4 (by decide) (by first | exact hk.1 | assumption | omega) wd_1144 wd_1145 wd_1146 (by decide +kernel) [] rfl rfl (by decide) (Nat.le_of_ble_eq_true rfl) (by decide) (kMV (fun m_11 h_12 => ?_))
            have hpr := h_12
            rw [e18, ew] at hpr
            have hR_m_11 : HR m_11 := by rw [hpr]; exact HR.s (HR.s hR (by decide)) (by omega)
            refine jblk hF [(.iconst 1, 1)] (by decide +kernel) (pc' := 88) (lo' := [(6, (0, 0)), (5, (2, v_1)), (0, (2, 3)), (1, (0, p)), (2, (0, n)), (3, (0, j)), (4, (0, f))]) (st' := [(0, 1)]) rfl ?_
            refine jzret hF hr (by omega) (by decide +kernel) ?_
            exact lMB1 ⟨hR_m_11, by exact ⟨⟨fun _ => hcc, fun _ => trivial⟩, by rw [if_pos hcc, hpr, hpo.1.1]; unfold prsX; congr 2; first | (rw [if_pos (by omega)]; omega) | (rw [if_neg (by omega)]; omega)⟩⟩
          · have hnp : ¬ preC mem p n j f := fun u => by have := u.2.2.2.2; omega
            refine jblk hF [(.iconst 0, 1)] (by decide +kernel) (pc' := 66) (lo' := [(6, (0, 0)), (5, (2, v_1)), (0, (2, 3)), (1, (0, p)), (2, (0, n)), (3, (0, j)), (4, (0, f))]) (st' := [(0, 0)]) rfl ?_
            refine jzret hF hr (by omega) (by decide +kernel) ?_
            exact lMB0 ⟨hR, by exact ⟨⟨fun u => u.elim, fun u => absurd u hnp⟩, (if_neg hnp).symm⟩⟩
        · refine jif_eq hF (off := 7) 50 (by decide +kernel) (by decide) (by decide) (fun _ => ?_) (fun h => absurd h (by decide))
          refine jblk hF [(.iconst 1, 1), (.istore 6, 2), (.aload_n 0, 1)] (by decide +kernel) (pc' := 54) (lo' := [(6, (0, 1)), (5, (2, v_1)), (0, (2, 3)), (1, (0, p)), (2, (0, n)), (3, (0, j)), (4, (0, f))]) (st' := [(2, 3)]) rfl ?_
          refine jget hF 12 4 0 4 rfl (by decide) (by decide) rfl wd_330 (by decide +kernel) (by exact hK.k3) ?_
          refine jblk hF [(.iload 6, 2), (.iadd, 1), (.bipush 80, 2)] (by decide +kernel) (pc' := 62) (lo' := [(6, (0, 1)), (5, (2, v_1)), (0, (2, 3)), (1, (0, p)), (2, (0, n)), (3, (0, j)), (4, (0, f))]) (st' := [(0, 80), (0, (mem 3 4) + 1)]) rfl ?_
          refine jicmp_le hF (off := 5) 67 (by decide +kernel) (by decide) (by omega) (by decide) (fun h_14 => ?_) (fun h_14 => ?_)
          · have hcc : preC mem p n j f := ⟨⟨hpg.1.1, hpg.2⟩, hpg.1, by omega, by omega, fun u => by omega⟩
            have e18 : ∀ w : Int, set2 mem 3 4 w v_1 18 = mem v_1 18 := fun w => s2_a (by omega)
            have ew : ∀ w i : Int, set2 mem 3 4 w (mem v_1 18) i = mem (mem v_1 18) i := fun w i => s2_a (by omega)
            refine jblk hF [(.aload_n 0, 1), (.dup, 1)] (by decide +kernel) (pc' := 69) (lo' := [(6, (0, 1)), (5, (2, v_1)), (0, (2, 3)), (1, (0, p)), (2, (0, n)), (3, (0, j)), (4, (0, f))]) (st' := [(2, 3), (2, 3)]) rfl ?_
            refine jget hF 12 4 0 4 rfl (by decide) (by decide) rfl wd_330 (by decide +kernel) (by exact hK.k3) ?_
            refine jblk hF [(.iload 6, 2), (.iadd, 1)] (by decide +kernel) (pc' := 75) (lo' := [(6, (0, 1)), (5, (2, v_1)), (0, (2, 3)), (1, (0, p)), (2, (0, n)), (3, (0, j)), (4, (0, f))]) (st' := [(0, (mem 3 4) + 1), (2, 3)]) rfl ?_
            refine jput hF 12 4 0 4 rfl (by decide) (by decide) rfl wd_330 (by decide +kernel) rfl (Or.inl rfl) (by exact hK.k3) (fun h => by cases h) ?_
            refine jblk hF [(.aload 5, 2), (.iload_n 2, 1), (.iload_n 3, 1), (.iload 4, 2)] (by decide +kernel) (pc' := 84) (lo' := [(6, (0, 1)), (5, (2, v_1)), (0, (2, 3)), (1, (0, p)), (2, (0, n)), (3, (0, j)), (4, (0, f))]) (st' := [(0, f), (0, j), (0, n), (2, v_1)]) rfl ?_
            refine jcallV hF (c_X3_pressFigure hG v_1 n j f (by exact hk.1) (by omega) (by (rw [e18]; exact ⟨h18.1, h18.2.1, by omega⟩)) (by (rw [s2_a (by omega)]; omega)) (by omega) (by (rw [e18, ew]; exact hwa n (by omega) (by omega))) (by omega)) MW_X3_pressFigure 4 (by decide) (by first | exact hk.1 | assumption | omega) wd_1144 wd_1145 wd_1146 (by decide +kernel) [] rfl rfl (by decide) (Nat.le_of_ble_eq_true rfl) (by decide) (kMV (fun m_15 h_16 => ?_))
            have hpr := h_16
            rw [e18, ew] at hpr
            have hR_m_15 : HR m_15 := by rw [hpr]; exact HR.s (HR.s hR (by decide)) (by omega)
            refine jblk hF [(.iconst 1, 1)] (by decide +kernel) (pc' := 88) (lo' := [(6, (0, 1)), (5, (2, v_1)), (0, (2, 3)), (1, (0, p)), (2, (0, n)), (3, (0, j)), (4, (0, f))]) (st' := [(0, 1)]) rfl ?_
            refine jzret hF hr (by omega) (by decide +kernel) ?_
            exact lMB1 ⟨hR_m_15, by exact ⟨⟨fun _ => hcc, fun _ => trivial⟩, by rw [if_pos hcc, hpr, hpo.1.1]; unfold prsX; congr 2; first | (rw [if_pos (by omega)]; omega) | (rw [if_neg (by omega)]; omega)⟩⟩
          · have hnp : ¬ preC mem p n j f := fun u => by have := u.2.2.2.2; omega
            refine jblk hF [(.iconst 0, 1)] (by decide +kernel) (pc' := 66) (lo' := [(6, (0, 1)), (5, (2, v_1)), (0, (2, 3)), (1, (0, p)), (2, (0, n)), (3, (0, j)), (4, (0, f))]) (st' := [(0, 0)]) rfl ?_
            refine jzret hF hr (by omega) (by decide +kernel) ?_
            exact lMB0 ⟨hR, by exact ⟨⟨fun u => u.elim, fun u => absurd u hnp⟩, (if_neg hnp).symm⟩⟩
      · refine jif_ne hF (off := 5) 36 (by decide +kernel) (by decide) (by decide) (fun h => absurd h (by decide)) (fun _ => ?_)
        have hng : ¬ preC mem p n j f := fun u => by first | omega | exact (hv.2 (by omega)).1 ⟨u.2.1, u.1.2⟩
        refine jblk hF [(.iconst 0, 1)] (by decide +kernel) (pc' := 35) (lo' := [(5, (2, v_1)), (0, (2, 3)), (1, (0, p)), (2, (0, n)), (3, (0, j)), (4, (0, f))]) (st' := [(0, 0)]) rfl ?_
        refine jzret hF hr (by omega) (by decide +kernel) ?_
        exact lMB0 ⟨hR, by exact ⟨⟨fun u => u.elim, fun u => absurd u hng⟩, (if_neg hng).symm⟩⟩
    · refine jif_eq hF (off := 14) 34 (by decide +kernel) (by decide) (by decide) (fun _ => ?_) (fun h => absurd h (by decide))
      have hng : ¬ preC mem p n j f := fun u => by first | omega | exact (hv.2 (by omega)).1 ⟨u.2.1, u.1.2⟩
      refine jblk hF [(.iconst 0, 1)] (by decide +kernel) (pc' := 35) (lo' := [(5, (2, v_1)), (0, (2, 3)), (1, (0, p)), (2, (0, n)), (3, (0, j)), (4, (0, f))]) (st' := [(0, 0)]) rfl ?_
      refine jzret hF hr (by omega) (by decide +kernel) ?_
      exact lMB0 ⟨hR, by exact ⟨⟨fun u => u.elim, fun u => absurd u hng⟩, (if_neg hng).symm⟩⟩
end
