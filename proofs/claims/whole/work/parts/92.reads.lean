section
/-- what compare counts of a told line -/
def CWA (mem : Int → Int → Int) (p n x w : Int) : Prop := if w = 1 then wL x = wL (prtV mem p n) else if w = 2 then wL x = wL (prtV mem p n) ∧ ¬ wL x = wL (rightV mem p n) else if w = 3 then ¬ wL (prtV mem p n) = wL (rightV mem p n) ∧ wL x = wL (rightV mem p n) else if w = 4 then wL x = wL (rightV mem p n) else True
def cqW (mem : Int → Int → Int) (t p w : Int) (k : Nat) : Int := if w = 0 then cq0 mem t p k else if w = 1 then cq1 mem t p k else if w = 2 then cq2 mem t p k else if w = 3 then cq3 mem t p k else cq4 mem t p k
theorem cqW_s {mem : Int → Int → Int} {t p w n : Int} (q : 0 ≤ n) (hw : 0 ≤ w ∧ w ≤ 4) : cqW mem t p w (n + 1).toNat = cqW mem t p w n.toNat + @ite Int (¬ mem 96 (40 * t + n) = 0 ∧ CWA mem p n (mem 95 (40 * t + n)) w) (Classical.propDecidable _) 1 0 := by
  unfold cqW CWA
  by_cases c0 : w = 0
  · rw [if_pos c0, if_pos c0, cq0_s q, if_neg (show ¬ w = 1 by omega), if_neg (show ¬ w = 2 by omega), if_neg (show ¬ w = 3 by omega), if_neg (show ¬ w = 4 by omega)]
    by_cases u : mem 96 (40 * t + n) = 0
    · rw [if_neg (fun v => v u), if_neg (fun v => v.1 u)]
    · rw [if_pos u, if_pos ⟨u, trivial⟩]
  · rw [if_neg c0, if_neg c0]
    by_cases c1 : w = 1
    · rw [if_pos c1, if_pos c1, if_pos c1, cq1_s q]; congr
    · rw [if_neg c1, if_neg c1, if_neg c1]
      by_cases c2 : w = 2
      · rw [if_pos c2, if_pos c2, if_pos c2, cq2_s q]; congr
      · rw [if_neg c2, if_neg c2, if_neg c2]
        by_cases c3 : w = 3
        · rw [if_pos c3, if_pos c3, if_pos c3, cq3_s q]; congr
        · rw [if_neg c3, if_neg c3, if_neg c3, if_pos (show w = 4 by omega), cq4_s q]; congr
theorem cqW_bd (mem : Int → Int → Int) (t p w : Int) : ∀ k : Nat, 0 ≤ cqW mem t p w k ∧ cqW mem t p w k ≤ k := by
  have h0 : ∀ k : Nat, 0 ≤ cq0 mem t p k ∧ cq0 mem t p k ≤ k := fun k => by induction k with | zero => simp [cq0] | succ k ih => unfold cq0; split <;> omega
  have h1 : ∀ k : Nat, 0 ≤ cq1 mem t p k ∧ cq1 mem t p k ≤ k := fun k => by induction k with | zero => simp [cq1] | succ k ih => unfold cq1; split <;> omega
  have h2 : ∀ k : Nat, 0 ≤ cq2 mem t p k ∧ cq2 mem t p k ≤ k := fun k => by induction k with | zero => simp [cq2] | succ k ih => unfold cq2; split <;> omega
  have h3 : ∀ k : Nat, 0 ≤ cq3 mem t p k ∧ cq3 mem t p k ≤ k := fun k => by induction k with | zero => simp [cq3] | succ k ih => unfold cq3; split <;> omega
  have h4 : ∀ k : Nat, 0 ≤ cq4 mem t p k ∧ cq4 mem t p k ≤ k := fun k => by induction k with | zero => simp [cq4] | succ k ih => unfold cq4; split <;> omega
  intro k
  have := h0 k; have := h1 k; have := h2 k; have := h3 k; have := h4 k
  unfold cqW
  (repeat' split) <;> omega
theorem ne_of_3 {a b c : Int} (h1 : ¬ a = b) (h2 : a = c) : ¬ b = c := fun u => h1 (h2.trans u.symm)
theorem cqW_0 (mem : Int → Int → Int) (t p w : Int) : cqW mem t p w 0 = 0 := by unfold cqW; (repeat' split) <;> rfl
theorem ne_of_2 {a b c : Int} (h : a = b) (h2 : ¬ c = a) : ¬ c = b := fun u => h2 (u.trans h.symm)
section
variable {kd : Int → Nat} {ln : Int → Int} {mem m : Int → Int → Int} {sz : Nat} {tg : Int → Int} {p q v n e : Int}
theorem SCF.cpt (h : SCF mem m) (p n : Int) : prtV m p n = prtV mem p n := by rw [ovr_ex h.eqs]; exact cg_prtV m mem p n
/-- as far as a line's doubt goes -/
theorem PAGV.beh (hP : PAGV kd ln mem sz tg p v) (h0 : 0 ≤ n) (h1 : n < mem 47 p) : n < (if n + mem v 4 + 2 < enV mem v (n / mem v 7) then n + mem v 4 + 2 else enV mem v (n / mem v 7)) ∧ (if n + mem v 4 + 2 < enV mem v (n / mem v 7) then n + mem v 4 + 2 else enV mem v (n / mem v 7)) ≤ mem 47 p ∧ ∀ k : Int, n ≤ k → (k < (if n + mem v 4 + 2 < enV mem v (n / mem v 7) then n + mem v 4 + 2 else enV mem v (n / mem v 7)) ↔ (k ≤ mem 47 p - 1 ∧ k ≤ n + mem 49 p + 1 ∧ k / mem 52 p = n / mem 52 p)) := by
  have hpg := hP.2.2
  obtain ⟨g0, g1, g2, g3, g4, g5, g6, g7, g8⟩ := hP.nm
  unfold enV
  rw [g4, g7, g2]
  have hd := ediv_mul_bd n (mem 52 p) (by omega)
  have hE : (n / mem 52 p + 1) * mem 52 p = n / mem 52 p * mem 52 p + mem 52 p := by rw [Int.add_mul, Int.one_mul]
  have hk : ∀ k : Int, n ≤ k → (k / mem 52 p = n / mem 52 p ↔ k < (n / mem 52 p + 1) * mem 52 p) := fun k hk => by
    constructor
    · intro w
      have := ediv_mul_bd k (mem 52 p) (by omega)
      rw [w] at this
      omega
    · intro w
      have h1 := Int.ediv_le_ediv (show 0 < mem 52 p by omega) hk
      have h2 : k / mem 52 p < n / mem 52 p + 1 := Int.ediv_lt_of_lt_mul (by omega) w
      omega
  refine ⟨?_, ?_, fun k q => ?_⟩
  · (repeat' split) <;> omega
  · (repeat' split) <;> omega
  · rw [hk k q]
    (repeat' split) <;> omega
theorem PAGV.fk (hP : PAGV kd ln mem sz tg p v) (h : SCF mem m) (hmd : MDP mem m p q) (h0 : 0 ≤ n) (hne : n ≤ e ∧ e ≤ mem 47 p) (hk : ∀ k : Int, n ≤ k → (k < e ↔ (k ≤ mem 47 p - 1 ∧ k ≤ n + mem 49 p + 1 ∧ k / mem 52 p = n / mem 52 p))) : 0 < fcS m (m 11) (c1F m) v n (e - n).toNat ↔ ∃ k : Int, n ≤ k ∧ k ≤ mem 47 p - 1 ∧ k ≤ n + mem 49 p + 1 ∧ k / mem 52 p = n / mem 52 p ∧ ¬ hldA mem p (adS mem p q) k := by
  have hF : ∀ t : Nat, n + t ≤ e → (0 < fcS m (m 11) (c1F m) v n t ↔ ∃ k : Int, n ≤ k ∧ k < n + t ∧ ¬ hldA mem p (adS mem p q) k) := by
    intro t
    induction t with
    | zero =>
      intro _
      exact ⟨fun w => absurd w (by show ¬ (0 : Int) < 0; omega), fun ⟨k, w1, w2, _⟩ => by omega⟩
    | succ t ih =>
      intro ht
      have i2 := ih (by omega)
      have hl := hP.hld h hmd (n := n + t) (by omega) (by omega)
      have hb := fcS_bd m (m 11) (c1F m) v n t
      unfold fcS
      by_cases w : hldA mem p (adS mem p q) (n + t)
      · rw [c01_t (hl.mpr w), Int.add_zero, i2]
        exact ⟨fun ⟨k, u1, u2, u3⟩ => ⟨k, u1, by omega, u3⟩, fun ⟨k, u1, u2, u3⟩ => ⟨k, u1, by
          rcases Int.lt_or_le k (n + t) with x | x
          · exact x
          · exact absurd (show hldA mem p (adS mem p q) k by rw [show k = n + t by omega]; exact w) u3, u3⟩⟩
      · rw [c01_f (fun u => w (hl.mp u))]
        exact ⟨fun _ => ⟨n + t, by omega, by omega, w⟩, fun _ => by omega⟩
  rw [hF (e - n).toNat (by omega)]
  exact ⟨fun ⟨k, u1, u2, u3⟩ => ⟨k, u1, ((hk k u1).mp (by omega)).1, ((hk k u1).mp (by omega)).2.1, ((hk k u1).mp (by omega)).2.2, u3⟩, fun ⟨k, u1, u2, u3, u4, u5⟩ => ⟨k, u1, by have := (hk k u1).mpr ⟨u2, u3, u4⟩; omega, u5⟩⟩
end
set_option maxHeartbeats 4000000 in
set_option maxRecDepth 100000 in
theorem c_X11_countsAs {l : Launch} {g : GP} (hG : GH g) {kd : Int → Nat} {ln : Int → Int} {mem : Int → Int → Int} {sz : Nat} (hK : HK kd ln) (hR : HR mem) (w v n x : Int) (tg : Int → Int) (hI : INV kd ln mem sz tg) (hTN : TNS g) (h_w : InI w) (p : Int) (hpg : isLn mem p n ∧ mem 82 p = 1) (hpo : PAGV kd ln mem sz tg p v) : MT l g yX11_countsAs cX11_countsAs 8 (some .boolean) 5 0 0 [(2, 3), (0, w), (2, v), (0, n), (1, x)] kd ln mem sz (pB (CWA mem p n x w) kd ln mem sz) := by
  refine MT_of hG (by decide +kernel) (Nat.le_of_ble_eq_true rfl) (fun z hF hr hn => ?_)
  obtain ⟨⟨q0, q1, q2, q3, q4, q5⟩, u0, u2, u46, u89, usz⟩ := hI.num
  have hplt := hpo.plt hpg.2
  have h18 := hpo.r8 (k := 18) (by decide)
  have hrs := hI.prs
  have hgn := hpo.nm
  have hn2 := hgn.2.2.1
  have hk := hpo.at
  have hpb := hpo.pb
  have h15 := hpo.r8 (k := 15) (by decide)
  obtain ⟨f1, f2, f3, f4, f5, f6, f7, f8, f9, f10⟩ := hpo.2.1.2.2.1 n (by omega) (by omega)
  have hpt := hpo.prt hrs hpg.2 (n := n) (by omega)
  refine jblk hF [(.lload 4, 2), (.aload_n 2, 1), (.iload_n 3, 1)] (by decide +kernel) (pc' := 4) (lo' := [(0, (2, 3)), (1, (0, w)), (2, (2, v)), (3, (0, n)), (4, (1, x))]) (st' := [(0, n), (2, v), (1, x)]) rfl ?_
  refine jcallV hF (c_X3_printedOf hG hK hR v n (by assumption) (by exact hk.1) (by omega) (by exact ⟨h18.1, h18.2.1, by omega⟩) (by exact fun _ => hplt.1) (by exact hpo.wa) (by omega) (by exact hplt.2.2.2) (by exact hpo.nib hrs) (by omega)) MW_X3_printedOf 4 (by decide) (by first | exact hk.1 | exact h15.1) wd_1153 wd_1154 wd_1155 (by decide +kernel) [(1, x)] rfl rfl (by decide) (Nat.le_of_ble_eq_true rfl) (by decide) (kV ?_)
  rw [hpt]
  refine jlcmpW_ne hF (off := 7) 15 (by decide +kernel) (by decide +kernel) (by decide) (fun h_1 => ?_) (fun h_1 => ?_)
  · refine jblk hF [(.iconst 0, 1), (.istore 6, 2), (.lload 4, 2), (.aload_n 2, 1)] (by decide +kernel) (pc' := 21) (lo' := [(6, (0, 0)), (0, (2, 3)), (1, (0, w)), (2, (2, v)), (3, (0, n)), (4, (1, x))]) (st' := [(2, v), (1, x)]) rfl ?_
    refine jget hF 4 15 2 15 rfl (by decide) (by decide) rfl wd_724 (by decide +kernel) (by first | exact hk.1 | exact h15.1) ?_
    refine jblk hF [(.iload_n 3, 1)] (by decide +kernel) (pc' := 25) (lo' := [(6, (0, 0)), (0, (2, 3)), (1, (0, w)), (2, (2, v)), (3, (0, n)), (4, (1, x))]) (st' := [(0, n), (2, mem v 15), (1, x)]) rfl ?_
    refine jlald hF (by decide +kernel) (by first | exact hk.1 | exact h15.1) (by omega) (by omega) ?_
    rw [f8]
    refine jlcmpW_ne hF (off := 7) 34 (by decide +kernel) (by decide +kernel) (by decide) (fun h_2 => ?_) (fun h_2 => ?_)
    · refine jblk hF [(.iconst 0, 1), (.istore 7, 2), (.iload_n 1, 1)] (by decide +kernel) (pc' := 38) (lo' := [(7, (0, 0)), (6, (0, 0)), (0, (2, 3)), (1, (0, w)), (2, (2, v)), (3, (0, n)), (4, (1, x))]) (st' := [(0, w)]) rfl ?_
      by_cases h_3 : w = 1
      · refine jtabIn hF (dflt := 68) (lo' := 1) (hi := 4) (offs := #[30, 33, 49, 65]) (len := 30) 1 30 68 (by decide +kernel) h_3 (by decide) (by decide) (by decide) rfl (by decide) ?_
        refine jblk hF [(.iload 6, 2)] (by decide +kernel) (pc' := 70) (lo' := [(7, (0, 0)), (6, (0, 0)), (0, (2, 3)), (1, (0, w)), (2, (2, v)), (3, (0, n)), (4, (1, x))]) (st' := [(0, 0)]) rfl ?_
        refine jzret hF hr (by omega) (by decide +kernel) ?_
        exact lB0 (by first | (unfold CWA; (repeat rw [if_neg (by omega)]); (try rw [if_pos (by omega)]); assumption) | (unfold CWA; (repeat rw [if_neg (by omega)]); (try rw [if_pos (by omega)]); exact ⟨by assumption, by assumption⟩) | (unfold CWA; (repeat rw [if_neg (by omega)]); (try rw [if_pos (by omega)]); exact ⟨fun u => absurd (by assumption) (ne_of_2 u (by assumption)), by assumption⟩) | (unfold CWA; (repeat rw [if_neg (by omega)]); (try rw [if_pos (by omega)]); exact ⟨ne_of_3 (a := wL x) (by assumption) (by assumption), by assumption⟩) | (unfold CWA; (repeat rw [if_neg (by omega)]); (try rw [if_pos (by omega)]); exact fun u => absurd u.1 (by assumption)) | (unfold CWA; (repeat rw [if_neg (by omega)]); (try rw [if_pos (by omega)]); exact fun u => absurd (by assumption) u.2) | (unfold CWA; (repeat rw [if_neg (by omega)]); (try rw [if_pos (by omega)]); exact fun u => absurd u.2 (by assumption)) | (unfold CWA; (repeat rw [if_neg (by omega)]); (try rw [if_pos (by omega)]); exact fun u => absurd (Eq.trans (Eq.symm (by assumption)) u.2) u.1) | (unfold CWA; (repeat rw [if_neg (by omega)]); (try rw [if_pos (by omega)]); exact fun u => u.1 (Eq.trans (Eq.symm (by assumption)) u.2)) | (unfold CWA; (repeat rw [if_neg (by omega)]); (try rw [if_pos (by omega)]); trivial))
      by_cases h_4 : w = 2
      · refine jtabIn hF (dflt := 68) (lo' := 1) (hi := 4) (offs := #[30, 33, 49, 65]) (len := 30) 2 33 71 (by decide +kernel) h_4 (by decide) (by decide) (by decide) rfl (by decide) ?_
        refine jblk hF [(.iload 6, 2)] (by decide +kernel) (pc' := 73) (lo' := [(7, (0, 0)), (6, (0, 0)), (0, (2, 3)), (1, (0, w)), (2, (2, v)), (3, (0, n)), (4, (1, x))]) (st' := [(0, 0)]) rfl ?_
        refine jif_eq hF (off := 12) 85 (by decide +kernel) (by decide) (by decide) (fun _ => ?_) (fun h => absurd h (by decide))
        refine jblk hF [(.iconst 0, 1)] (by decide +kernel) (pc' := 86) (lo' := [(7, (0, 0)), (6, (0, 0)), (0, (2, 3)), (1, (0, w)), (2, (2, v)), (3, (0, n)), (4, (1, x))]) (st' := [(0, 0)]) rfl ?_
        refine jzret hF hr (by omega) (by decide +kernel) ?_
        exact lB0 (by first | (unfold CWA; (repeat rw [if_neg (by omega)]); (try rw [if_pos (by omega)]); assumption) | (unfold CWA; (repeat rw [if_neg (by omega)]); (try rw [if_pos (by omega)]); exact ⟨by assumption, by assumption⟩) | (unfold CWA; (repeat rw [if_neg (by omega)]); (try rw [if_pos (by omega)]); exact ⟨fun u => absurd (by assumption) (ne_of_2 u (by assumption)), by assumption⟩) | (unfold CWA; (repeat rw [if_neg (by omega)]); (try rw [if_pos (by omega)]); exact ⟨ne_of_3 (a := wL x) (by assumption) (by assumption), by assumption⟩) | (unfold CWA; (repeat rw [if_neg (by omega)]); (try rw [if_pos (by omega)]); exact fun u => absurd u.1 (by assumption)) | (unfold CWA; (repeat rw [if_neg (by omega)]); (try rw [if_pos (by omega)]); exact fun u => absurd (by assumption) u.2) | (unfold CWA; (repeat rw [if_neg (by omega)]); (try rw [if_pos (by omega)]); exact fun u => absurd u.2 (by assumption)) | (unfold CWA; (repeat rw [if_neg (by omega)]); (try rw [if_pos (by omega)]); exact fun u => absurd (Eq.trans (Eq.symm (by assumption)) u.2) u.1) | (unfold CWA; (repeat rw [if_neg (by omega)]); (try rw [if_pos (by omega)]); exact fun u => u.1 (Eq.trans (Eq.symm (by assumption)) u.2)) | (unfold CWA; (repeat rw [if_neg (by omega)]); (try rw [if_pos (by omega)]); trivial))
      by_cases h_6 : w = 3
      · refine jtabIn hF (dflt := 68) (lo' := 1) (hi := 4) (offs := #[30, 33, 49, 65]) (len := 30) 3 49 87 (by decide +kernel) h_6 (by decide) (by decide) (by decide) rfl (by decide) ?_
        refine jblk hF [(.iload 6, 2)] (by decide +kernel) (pc' := 89) (lo' := [(7, (0, 0)), (6, (0, 0)), (0, (2, 3)), (1, (0, w)), (2, (2, v)), (3, (0, n)), (4, (1, x))]) (st' := [(0, 0)]) rfl ?_
        refine jif_ne hF (off := 12) 101 (by decide +kernel) (by decide) (by decide) (fun h => absurd h (by decide)) (fun _ => ?_)
        refine jblk hF [(.iload 7, 2)] (by decide +kernel) (pc' := 94) (lo' := [(7, (0, 0)), (6, (0, 0)), (0, (2, 3)), (1, (0, w)), (2, (2, v)), (3, (0, n)), (4, (1, x))]) (st' := [(0, 0)]) rfl ?_
        refine jif_eq hF (off := 7) 101 (by decide +kernel) (by decide) (by decide) (fun _ => ?_) (fun h => absurd h (by decide))
        refine jblk hF [(.iconst 0, 1)] (by decide +kernel) (pc' := 102) (lo' := [(7, (0, 0)), (6, (0, 0)), (0, (2, 3)), (1, (0, w)), (2, (2, v)), (3, (0, n)), (4, (1, x))]) (st' := [(0, 0)]) rfl ?_
        refine jzret hF hr (by omega) (by decide +kernel) ?_
        exact lB0 (by first | (unfold CWA; (repeat rw [if_neg (by omega)]); (try rw [if_pos (by omega)]); assumption) | (unfold CWA; (repeat rw [if_neg (by omega)]); (try rw [if_pos (by omega)]); exact ⟨by assumption, by assumption⟩) | (unfold CWA; (repeat rw [if_neg (by omega)]); (try rw [if_pos (by omega)]); exact ⟨fun u => absurd (by assumption) (ne_of_2 u (by assumption)), by assumption⟩) | (unfold CWA; (repeat rw [if_neg (by omega)]); (try rw [if_pos (by omega)]); exact ⟨ne_of_3 (a := wL x) (by assumption) (by assumption), by assumption⟩) | (unfold CWA; (repeat rw [if_neg (by omega)]); (try rw [if_pos (by omega)]); exact fun u => absurd u.1 (by assumption)) | (unfold CWA; (repeat rw [if_neg (by omega)]); (try rw [if_pos (by omega)]); exact fun u => absurd (by assumption) u.2) | (unfold CWA; (repeat rw [if_neg (by omega)]); (try rw [if_pos (by omega)]); exact fun u => absurd u.2 (by assumption)) | (unfold CWA; (repeat rw [if_neg (by omega)]); (try rw [if_pos (by omega)]); exact fun u => absurd (Eq.trans (Eq.symm (by assumption)) u.2) u.1) | (unfold CWA; (repeat rw [if_neg (by omega)]); (try rw [if_pos (by omega)]); exact fun u => u.1 (Eq.trans (Eq.symm (by assumption)) u.2)) | (unfold CWA; (repeat rw [if_neg (by omega)]); (try rw [if_pos (by omega)]); trivial))
      by_cases h_9 : w = 4
      · refine jtabIn hF (dflt := 68) (lo' := 1) (hi := 4) (offs := #[30, 33, 49, 65]) (len := 30) 4 65 103 (by decide +kernel) h_9 (by decide) (by decide) (by decide) rfl (by decide) ?_
        refine jblk hF [(.iload 7, 2)] (by decide +kernel) (pc' := 105) (lo' := [(7, (0, 0)), (6, (0, 0)), (0, (2, 3)), (1, (0, w)), (2, (2, v)), (3, (0, n)), (4, (1, x))]) (st' := [(0, 0)]) rfl ?_
        refine jzret hF hr (by omega) (by decide +kernel) ?_
        exact lB0 (by first | (unfold CWA; (repeat rw [if_neg (by omega)]); (try rw [if_pos (by omega)]); assumption) | (unfold CWA; (repeat rw [if_neg (by omega)]); (try rw [if_pos (by omega)]); exact ⟨by assumption, by assumption⟩) | (unfold CWA; (repeat rw [if_neg (by omega)]); (try rw [if_pos (by omega)]); exact ⟨fun u => absurd (by assumption) (ne_of_2 u (by assumption)), by assumption⟩) | (unfold CWA; (repeat rw [if_neg (by omega)]); (try rw [if_pos (by omega)]); exact ⟨ne_of_3 (a := wL x) (by assumption) (by assumption), by assumption⟩) | (unfold CWA; (repeat rw [if_neg (by omega)]); (try rw [if_pos (by omega)]); exact fun u => absurd u.1 (by assumption)) | (unfold CWA; (repeat rw [if_neg (by omega)]); (try rw [if_pos (by omega)]); exact fun u => absurd (by assumption) u.2) | (unfold CWA; (repeat rw [if_neg (by omega)]); (try rw [if_pos (by omega)]); exact fun u => absurd u.2 (by assumption)) | (unfold CWA; (repeat rw [if_neg (by omega)]); (try rw [if_pos (by omega)]); exact fun u => absurd (Eq.trans (Eq.symm (by assumption)) u.2) u.1) | (unfold CWA; (repeat rw [if_neg (by omega)]); (try rw [if_pos (by omega)]); exact fun u => u.1 (Eq.trans (Eq.symm (by assumption)) u.2)) | (unfold CWA; (repeat rw [if_neg (by omega)]); (try rw [if_pos (by omega)]); trivial))
      refine jtabOut hF (dflt := 68) (lo' := 1) (hi := 4) (offs := #[30, 33, 49, 65]) (len := 30) 106 (by decide +kernel) (by omega) (by omega) (by decide) ?_
      refine jblk hF [(.iconst 1, 1)] (by decide +kernel) (pc' := 107) (lo' := [(7, (0, 0)), (6, (0, 0)), (0, (2, 3)), (1, (0, w)), (2, (2, v)), (3, (0, n)), (4, (1, x))]) (st' := [(0, 1)]) rfl ?_
      refine jzret hF hr (by omega) (by decide +kernel) ?_
      exact lB1 (by first | (unfold CWA; (repeat rw [if_neg (by omega)]); (try rw [if_pos (by omega)]); assumption) | (unfold CWA; (repeat rw [if_neg (by omega)]); (try rw [if_pos (by omega)]); exact ⟨by assumption, by assumption⟩) | (unfold CWA; (repeat rw [if_neg (by omega)]); (try rw [if_pos (by omega)]); exact ⟨fun u => absurd (by assumption) (ne_of_2 u (by assumption)), by assumption⟩) | (unfold CWA; (repeat rw [if_neg (by omega)]); (try rw [if_pos (by omega)]); exact ⟨ne_of_3 (a := wL x) (by assumption) (by assumption), by assumption⟩) | (unfold CWA; (repeat rw [if_neg (by omega)]); (try rw [if_pos (by omega)]); exact fun u => absurd u.1 (by assumption)) | (unfold CWA; (repeat rw [if_neg (by omega)]); (try rw [if_pos (by omega)]); exact fun u => absurd (by assumption) u.2) | (unfold CWA; (repeat rw [if_neg (by omega)]); (try rw [if_pos (by omega)]); exact fun u => absurd u.2 (by assumption)) | (unfold CWA; (repeat rw [if_neg (by omega)]); (try rw [if_pos (by omega)]); exact fun u => absurd (Eq.trans (Eq.symm (by assumption)) u.2) u.1) | (unfold CWA; (repeat rw [if_neg (by omega)]); (try rw [if_pos (by omega)]); exact fun u => u.1 (Eq.trans (Eq.symm (by assumption)) u.2)) | (unfold CWA; (repeat rw [if_neg (by omega)]); (try rw [if_pos (by omega)]); trivial))
    · refine jblk hF [(.iconst 1, 1)] (by decide +kernel) (pc' := 31) (lo' := [(6, (0, 0)), (0, (2, 3)), (1, (0, w)), (2, (2, v)), (3, (0, n)), (4, (1, x))]) (st' := [(0, 1)]) rfl ?_
      refine jgoto hF (off := 4) 35 (by decide +kernel) (by decide) ?_
      refine jblk hF [(.istore 7, 2), (.iload_n 1, 1)] (by decide +kernel) (pc' := 38) (lo' := [(7, (0, 1)), (6, (0, 0)), (0, (2, 3)), (1, (0, w)), (2, (2, v)), (3, (0, n)), (4, (1, x))]) (st' := [(0, w)]) rfl ?_
      by_cases h_10 : w = 1
      · refine jtabIn hF (dflt := 68) (lo' := 1) (hi := 4) (offs := #[30, 33, 49, 65]) (len := 30) 1 30 68 (by decide +kernel) h_10 (by decide) (by decide) (by decide) rfl (by decide) ?_
        refine jblk hF [(.iload 6, 2)] (by decide +kernel) (pc' := 70) (lo' := [(7, (0, 1)), (6, (0, 0)), (0, (2, 3)), (1, (0, w)), (2, (2, v)), (3, (0, n)), (4, (1, x))]) (st' := [(0, 0)]) rfl ?_
        refine jzret hF hr (by omega) (by decide +kernel) ?_
        exact lB0 (by first | (unfold CWA; (repeat rw [if_neg (by omega)]); (try rw [if_pos (by omega)]); assumption) | (unfold CWA; (repeat rw [if_neg (by omega)]); (try rw [if_pos (by omega)]); exact ⟨by assumption, by assumption⟩) | (unfold CWA; (repeat rw [if_neg (by omega)]); (try rw [if_pos (by omega)]); exact ⟨fun u => absurd (by assumption) (ne_of_2 u (by assumption)), by assumption⟩) | (unfold CWA; (repeat rw [if_neg (by omega)]); (try rw [if_pos (by omega)]); exact ⟨ne_of_3 (a := wL x) (by assumption) (by assumption), by assumption⟩) | (unfold CWA; (repeat rw [if_neg (by omega)]); (try rw [if_pos (by omega)]); exact fun u => absurd u.1 (by assumption)) | (unfold CWA; (repeat rw [if_neg (by omega)]); (try rw [if_pos (by omega)]); exact fun u => absurd (by assumption) u.2) | (unfold CWA; (repeat rw [if_neg (by omega)]); (try rw [if_pos (by omega)]); exact fun u => absurd u.2 (by assumption)) | (unfold CWA; (repeat rw [if_neg (by omega)]); (try rw [if_pos (by omega)]); exact fun u => absurd (Eq.trans (Eq.symm (by assumption)) u.2) u.1) | (unfold CWA; (repeat rw [if_neg (by omega)]); (try rw [if_pos (by omega)]); exact fun u => u.1 (Eq.trans (Eq.symm (by assumption)) u.2)) | (unfold CWA; (repeat rw [if_neg (by omega)]); (try rw [if_pos (by omega)]); trivial))
      by_cases h_11 : w = 2
      · refine jtabIn hF (dflt := 68) (lo' := 1) (hi := 4) (offs := #[30, 33, 49, 65]) (len := 30) 2 33 71 (by decide +kernel) h_11 (by decide) (by decide) (by decide) rfl (by decide) ?_
        refine jblk hF [(.iload 6, 2)] (by decide +kernel) (pc' := 73) (lo' := [(7, (0, 1)), (6, (0, 0)), (0, (2, 3)), (1, (0, w)), (2, (2, v)), (3, (0, n)), (4, (1, x))]) (st' := [(0, 0)]) rfl ?_
        refine jif_eq hF (off := 12) 85 (by decide +kernel) (by decide) (by decide) (fun _ => ?_) (fun h => absurd h (by decide))
        refine jblk hF [(.iconst 0, 1)] (by decide +kernel) (pc' := 86) (lo' := [(7, (0, 1)), (6, (0, 0)), (0, (2, 3)), (1, (0, w)), (2, (2, v)), (3, (0, n)), (4, (1, x))]) (st' := [(0, 0)]) rfl ?_
        refine jzret hF hr (by omega) (by decide +kernel) ?_
        exact lB0 (by first | (unfold CWA; (repeat rw [if_neg (by omega)]); (try rw [if_pos (by omega)]); assumption) | (unfold CWA; (repeat rw [if_neg (by omega)]); (try rw [if_pos (by omega)]); exact ⟨by assumption, by assumption⟩) | (unfold CWA; (repeat rw [if_neg (by omega)]); (try rw [if_pos (by omega)]); exact ⟨fun u => absurd (by assumption) (ne_of_2 u (by assumption)), by assumption⟩) | (unfold CWA; (repeat rw [if_neg (by omega)]); (try rw [if_pos (by omega)]); exact ⟨ne_of_3 (a := wL x) (by assumption) (by assumption), by assumption⟩) | (unfold CWA; (repeat rw [if_neg (by omega)]); (try rw [if_pos (by omega)]); exact fun u => absurd u.1 (by assumption)) | (unfold CWA; (repeat rw [if_neg (by omega)]); (try rw [if_pos (by omega)]); exact fun u => absurd (by assumption) u.2) | (unfold CWA; (repeat rw [if_neg (by omega)]); (try rw [if_pos (by omega)]); exact fun u => absurd u.2 (by assumption)) | (unfold CWA; (repeat rw [if_neg (by omega)]); (try rw [if_pos (by omega)]); exact fun u => absurd (Eq.trans (Eq.symm (by assumption)) u.2) u.1) | (unfold CWA; (repeat rw [if_neg (by omega)]); (try rw [if_pos (by omega)]); exact fun u => u.1 (Eq.trans (Eq.symm (by assumption)) u.2)) | (unfold CWA; (repeat rw [if_neg (by omega)]); (try rw [if_pos (by omega)]); trivial))
      by_cases h_13 : w = 3
      · refine jtabIn hF (dflt := 68) (lo' := 1) (hi := 4) (offs := #[30, 33, 49, 65]) (len := 30) 3 49 87 (by decide +kernel) h_13 (by decide) (by decide) (by decide) rfl (by decide) ?_
        refine jblk hF [(.iload 6, 2)] (by decide +kernel) (pc' := 89) (lo' := [(7, (0, 1)), (6, (0, 0)), (0, (2, 3)), (1, (0, w)), (2, (2, v)), (3, (0, n)), (4, (1, x))]) (st' := [(0, 0)]) rfl ?_
        refine jif_ne hF (off := 12) 101 (by decide +kernel) (by decide) (by decide) (fun h => absurd h (by decide)) (fun _ => ?_)
        refine jblk hF [(.iload 7, 2)] (by decide +kernel) (pc' := 94) (lo' := [(7, (0, 1)), (6, (0, 0)), (0, (2, 3)), (1, (0, w)), (2, (2, v)), (3, (0, n)), (4, (1, x))]) (st' := [(0, 1)]) rfl ?_
        refine jif_eq hF (off := 7) 101 (by decide +kernel) (by decide) (by decide) (fun h => absurd h (by decide)) (fun _ => ?_)
        refine jblk hF [(.iconst 1, 1)] (by decide +kernel) (pc' := 98) (lo' := [(7, (0, 1)), (6, (0, 0)), (0, (2, 3)), (1, (0, w)), (2, (2, v)), (3, (0, n)), (4, (1, x))]) (st' := [(0, 1)]) rfl ?_
        refine jgoto hF (off := 4) 102 (by decide +kernel) (by decide) ?_
        refine jzret hF hr (by omega) (by decide +kernel) ?_
        exact lB1 (by first | (unfold CWA; (repeat rw [if_neg (by omega)]); (try rw [if_pos (by omega)]); assumption) | (unfold CWA; (repeat rw [if_neg (by omega)]); (try rw [if_pos (by omega)]); exact ⟨by assumption, by assumption⟩) | (unfold CWA; (repeat rw [if_neg (by omega)]); (try rw [if_pos (by omega)]); exact ⟨fun u => absurd (by assumption) (ne_of_2 u (by assumption)), by assumption⟩) | (unfold CWA; (repeat rw [if_neg (by omega)]); (try rw [if_pos (by omega)]); exact ⟨ne_of_3 (a := wL x) (by assumption) (by assumption), by assumption⟩) | (unfold CWA; (repeat rw [if_neg (by omega)]); (try rw [if_pos (by omega)]); exact fun u => absurd u.1 (by assumption)) | (unfold CWA; (repeat rw [if_neg (by omega)]); (try rw [if_pos (by omega)]); exact fun u => absurd (by assumption) u.2) | (unfold CWA; (repeat rw [if_neg (by omega)]); (try rw [if_pos (by omega)]); exact fun u => absurd u.2 (by assumption)) | (unfold CWA; (repeat rw [if_neg (by omega)]); (try rw [if_pos (by omega)]); exact fun u => absurd (Eq.trans (Eq.symm (by assumption)) u.2) u.1) | (unfold CWA; (repeat rw [if_neg (by omega)]); (try rw [if_pos (by omega)]); exact fun u => u.1 (Eq.trans (Eq.symm (by assumption)) u.2)) | (unfold CWA; (repeat rw [if_neg (by omega)]); (try rw [if_pos (by omega)]); trivial))
      by_cases h_16 : w = 4
      · refine jtabIn hF (dflt := 68) (lo' := 1) (hi := 4) (offs := #[30, 33, 49, 65]) (len := 30) 4 65 103 (by decide +kernel) h_16 (by decide) (by decide) (by decide) rfl (by decide) ?_
        refine jblk hF [(.iload 7, 2)] (by decide +kernel) (pc' := 105) (lo' := [(7, (0, 1)), (6, (0, 0)), (0, (2, 3)), (1, (0, w)), (2, (2, v)), (3, (0, n)), (4, (1, x))]) (st' := [(0, 1)]) rfl ?_
        refine jzret hF hr (by omega) (by decide +kernel) ?_
        exact lB1 (by first | (unfold CWA; (repeat rw [if_neg (by omega)]); (try rw [if_pos (by omega)]); assumption) | (unfold CWA; (repeat rw [if_neg (by omega)]); (try rw [if_pos (by omega)]); exact ⟨by assumption, by assumption⟩) | (unfold CWA; (repeat rw [if_neg (by omega)]); (try rw [if_pos (by omega)]); exact ⟨fun u => absurd (by assumption) (ne_of_2 u (by assumption)), by assumption⟩) | (unfold CWA; (repeat rw [if_neg (by omega)]); (try rw [if_pos (by omega)]); exact ⟨ne_of_3 (a := wL x) (by assumption) (by assumption), by assumption⟩) | (unfold CWA; (repeat rw [if_neg (by omega)]); (try rw [if_pos (by omega)]); exact fun u => absurd u.1 (by assumption)) | (unfold CWA; (repeat rw [if_neg (by omega)]); (try rw [if_pos (by omega)]); exact fun u => absurd (by assumption) u.2) | (unfold CWA; (repeat rw [if_neg (by omega)]); (try rw [if_pos (by omega)]); exact fun u => absurd u.2 (by assumption)) | (unfold CWA; (repeat rw [if_neg (by omega)]); (try rw [if_pos (by omega)]); exact fun u => absurd (Eq.trans (Eq.symm (by assumption)) u.2) u.1) | (unfold CWA; (repeat rw [if_neg (by omega)]); (try rw [if_pos (by omega)]); exact fun u => u.1 (Eq.trans (Eq.symm (by assumption)) u.2)) | (unfold CWA; (repeat rw [if_neg (by omega)]); (try rw [if_pos (by omega)]); trivial))
      refine jtabOut hF (dflt := 68) (lo' := 1) (hi := 4) (offs := #[30, 33, 49, 65]) (len := 30) 106 (by decide +kernel) (by omega) (by omega) (by decide) ?_
      refine jblk hF [(.iconst 1, 1)] (by decide +kernel) (pc' := 107) (lo' := [(7, (0, 1)), (6, (0, 0)), (0, (2, 3)), (1, (0, w)), (2, (2, v)), (3, (0, n)), (4, (1, x))]) (st' := [(0, 1)]) rfl ?_
      refine jzret hF hr (by omega) (by decide +kernel) ?_
      exact lB1 (by first | (unfold CWA; (repeat rw [if_neg (by omega)]); (try rw [if_pos (by omega)]); assumption) | (unfold CWA; (repeat rw [if_neg (by omega)]); (try rw [if_pos (by omega)]); exact ⟨by assumption, by assumption⟩) | (unfold CWA; (repeat rw [if_neg (by omega)]); (try rw [if_pos (by omega)]); exact ⟨fun u => absurd (by assumption) (ne_of_2 u (by assumption)), by assumption⟩) | (unfold CWA; (repeat rw [if_neg (by omega)]); (try rw [if_pos (by omega)]); exact ⟨ne_of_3 (a := wL x) (by assumption) (by assumption), by assumption⟩) | (unfold CWA; (repeat rw [if_neg (by omega)]); (try rw [if_pos (by omega)]); exact fun u => absurd u.1 (by assumption)) | (unfold CWA; (repeat rw [if_neg (by omega)]); (try rw [if_pos (by omega)]); exact fun u => absurd (by assumption) u.2) | (unfold CWA; (repeat rw [if_neg (by omega)]); (try rw [if_pos (by omega)]); exact fun u => absurd u.2 (by assumption)) | (unfold CWA; (repeat rw [if_neg (by omega)]); (try rw [if_pos (by omega)]); exact fun u => absurd (Eq.trans (Eq.symm (by assumption)) u.2) u.1) | (unfold CWA; (repeat rw [if_neg (by omega)]); (try rw [if_pos (by omega)]); exact fun u => u.1 (Eq.trans (Eq.symm (by assumption)) u.2)) | (unfold CWA; (repeat rw [if_neg (by omega)]); (try rw [if_pos (by omega)]); trivial))
  · refine jblk hF [(.iconst 1, 1)] (by decide +kernel) (pc' := 12) (lo' := [(0, (2, 3)), (1, (0, w)), (2, (2, v)), (3, (0, n)), (4, (1, x))]) (st' := [(0, 1)]) rfl ?_
    refine jgoto hF (off := 4) 16 (by decide +kernel) (by decide) ?_
    refine jblk hF [(.istore 6, 2), (.lload 4, 2), (.aload_n 2, 1)] (by decide +kernel) (pc' := 21) (lo' := [(6, (0, 1)), (0, (2, 3)), (1, (0, w)), (2, (2, v)), (3, (0, n)), (4, (1, x))]) (st' := [(2, v), (1, x)]) rfl ?_
    refine jget hF 4 15 2 15 rfl (by decide) (by decide) rfl wd_724 (by decide +kernel) (by first | exact hk.1 | exact h15.1) ?_
    refine jblk hF [(.iload_n 3, 1)] (by decide +kernel) (pc' := 25) (lo' := [(6, (0, 1)), (0, (2, 3)), (1, (0, w)), (2, (2, v)), (3, (0, n)), (4, (1, x))]) (st' := [(0, n), (2, mem v 15), (1, x)]) rfl ?_
    refine jlald hF (by decide +kernel) (by first | exact hk.1 | exact h15.1) (by omega) (by omega) ?_
    rw [f8]
    refine jlcmpW_ne hF (off := 7) 34 (by decide +kernel) (by decide +kernel) (by decide) (fun h_17 => ?_) (fun h_17 => ?_)
    · refine jblk hF [(.iconst 0, 1), (.istore 7, 2), (.iload_n 1, 1)] (by decide +kernel) (pc' := 38) (lo' := [(7, (0, 0)), (6, (0, 1)), (0, (2, 3)), (1, (0, w)), (2, (2, v)), (3, (0, n)), (4, (1, x))]) (st' := [(0, w)]) rfl ?_
      by_cases h_18 : w = 1
      · refine jtabIn hF (dflt := 68) (lo' := 1) (hi := 4) (offs := #[30, 33, 49, 65]) (len := 30) 1 30 68 (by decide +kernel) h_18 (by decide) (by decide) (by decide) rfl (by decide) ?_
        refine jblk hF [(.iload 6, 2)] (by decide +kernel) (pc' := 70) (lo' := [(7, (0, 0)), (6, (0, 1)), (0, (2, 3)), (1, (0, w)), (2, (2, v)), (3, (0, n)), (4, (1, x))]) (st' := [(0, 1)]) rfl ?_
        refine jzret hF hr (by omega) (by decide +kernel) ?_
        exact lB1 (by first | (unfold CWA; (repeat rw [if_neg (by omega)]); (try rw [if_pos (by omega)]); assumption) | (unfold CWA; (repeat rw [if_neg (by omega)]); (try rw [if_pos (by omega)]); exact ⟨by assumption, by assumption⟩) | (unfold CWA; (repeat rw [if_neg (by omega)]); (try rw [if_pos (by omega)]); exact ⟨fun u => absurd (by assumption) (ne_of_2 u (by assumption)), by assumption⟩) | (unfold CWA; (repeat rw [if_neg (by omega)]); (try rw [if_pos (by omega)]); exact ⟨ne_of_3 (a := wL x) (by assumption) (by assumption), by assumption⟩) | (unfold CWA; (repeat rw [if_neg (by omega)]); (try rw [if_pos (by omega)]); exact fun u => absurd u.1 (by assumption)) | (unfold CWA; (repeat rw [if_neg (by omega)]); (try rw [if_pos (by omega)]); exact fun u => absurd (by assumption) u.2) | (unfold CWA; (repeat rw [if_neg (by omega)]); (try rw [if_pos (by omega)]); exact fun u => absurd u.2 (by assumption)) | (unfold CWA; (repeat rw [if_neg (by omega)]); (try rw [if_pos (by omega)]); exact fun u => absurd (Eq.trans (Eq.symm (by assumption)) u.2) u.1) | (unfold CWA; (repeat rw [if_neg (by omega)]); (try rw [if_pos (by omega)]); exact fun u => u.1 (Eq.trans (Eq.symm (by assumption)) u.2)) | (unfold CWA; (repeat rw [if_neg (by omega)]); (try rw [if_pos (by omega)]); trivial))
      by_cases h_19 : w = 2
      · refine jtabIn hF (dflt := 68) (lo' := 1) (hi := 4) (offs := #[30, 33, 49, 65]) (len := 30) 2 33 71 (by decide +kernel) h_19 (by decide) (by decide) (by decide) rfl (by decide) ?_
        refine jblk hF [(.iload 6, 2)] (by decide +kernel) (pc' := 73) (lo' := [(7, (0, 0)), (6, (0, 1)), (0, (2, 3)), (1, (0, w)), (2, (2, v)), (3, (0, n)), (4, (1, x))]) (st' := [(0, 1)]) rfl ?_
        refine jif_eq hF (off := 12) 85 (by decide +kernel) (by decide) (by decide) (fun h => absurd h (by decide)) (fun _ => ?_)
        refine jblk hF [(.iload 7, 2)] (by decide +kernel) (pc' := 78) (lo' := [(7, (0, 0)), (6, (0, 1)), (0, (2, 3)), (1, (0, w)), (2, (2, v)), (3, (0, n)), (4, (1, x))]) (st' := [(0, 0)]) rfl ?_
        refine jif_ne hF (off := 7) 85 (by decide +kernel) (by decide) (by decide) (fun h => absurd h (by decide)) (fun _ => ?_)
        refine jblk hF [(.iconst 1, 1)] (by decide +kernel) (pc' := 82) (lo' := [(7, (0, 0)), (6, (0, 1)), (0, (2, 3)), (1, (0, w)), (2, (2, v)), (3, (0, n)), (4, (1, x))]) (st' := [(0, 1)]) rfl ?_
        refine jgoto hF (off := 4) 86 (by decide +kernel) (by decide) ?_
        refine jzret hF hr (by omega) (by decide +kernel) ?_
        exact lB1 (by first | (unfold CWA; (repeat rw [if_neg (by omega)]); (try rw [if_pos (by omega)]); assumption) | (unfold CWA; (repeat rw [if_neg (by omega)]); (try rw [if_pos (by omega)]); exact ⟨by assumption, by assumption⟩) | (unfold CWA; (repeat rw [if_neg (by omega)]); (try rw [if_pos (by omega)]); exact ⟨fun u => absurd (by assumption) (ne_of_2 u (by assumption)), by assumption⟩) | (unfold CWA; (repeat rw [if_neg (by omega)]); (try rw [if_pos (by omega)]); exact ⟨ne_of_3 (a := wL x) (by assumption) (by assumption), by assumption⟩) | (unfold CWA; (repeat rw [if_neg (by omega)]); (try rw [if_pos (by omega)]); exact fun u => absurd u.1 (by assumption)) | (unfold CWA; (repeat rw [if_neg (by omega)]); (try rw [if_pos (by omega)]); exact fun u => absurd (by assumption) u.2) | (unfold CWA; (repeat rw [if_neg (by omega)]); (try rw [if_pos (by omega)]); exact fun u => absurd u.2 (by assumption)) | (unfold CWA; (repeat rw [if_neg (by omega)]); (try rw [if_pos (by omega)]); exact fun u => absurd (Eq.trans (Eq.symm (by assumption)) u.2) u.1) | (unfold CWA; (repeat rw [if_neg (by omega)]); (try rw [if_pos (by omega)]); exact fun u => u.1 (Eq.trans (Eq.symm (by assumption)) u.2)) | (unfold CWA; (repeat rw [if_neg (by omega)]); (try rw [if_pos (by omega)]); trivial))
      by_cases h_22 : w = 3
      · refine jtabIn hF (dflt := 68) (lo' := 1) (hi := 4) (offs := #[30, 33, 49, 65]) (len := 30) 3 49 87 (by decide +kernel) h_22 (by decide) (by decide) (by decide) rfl (by decide) ?_
        refine jblk hF [(.iload 6, 2)] (by decide +kernel) (pc' := 89) (lo' := [(7, (0, 0)), (6, (0, 1)), (0, (2, 3)), (1, (0, w)), (2, (2, v)), (3, (0, n)), (4, (1, x))]) (st' := [(0, 1)]) rfl ?_
        refine jif_ne hF (off := 12) 101 (by decide +kernel) (by decide) (by decide) (fun _ => ?_) (fun h => absurd h (by decide))
        refine jblk hF [(.iconst 0, 1)] (by decide +kernel) (pc' := 102) (lo' := [(7, (0, 0)), (6, (0, 1)), (0, (2, 3)), (1, (0, w)), (2, (2, v)), (3, (0, n)), (4, (1, x))]) (st' := [(0, 0)]) rfl ?_
        refine jzret hF hr (by omega) (by decide +kernel) ?_
        exact lB0 (by first | (unfold CWA; (repeat rw [if_neg (by omega)]); (try rw [if_pos (by omega)]); assumption) | (unfold CWA; (repeat rw [if_neg (by omega)]); (try rw [if_pos (by omega)]); exact ⟨by assumption, by assumption⟩) | (unfold CWA; (repeat rw [if_neg (by omega)]); (try rw [if_pos (by omega)]); exact ⟨fun u => absurd (by assumption) (ne_of_2 u (by assumption)), by assumption⟩) | (unfold CWA; (repeat rw [if_neg (by omega)]); (try rw [if_pos (by omega)]); exact ⟨ne_of_3 (a := wL x) (by assumption) (by assumption), by assumption⟩) | (unfold CWA; (repeat rw [if_neg (by omega)]); (try rw [if_pos (by omega)]); exact fun u => absurd u.1 (by assumption)) | (unfold CWA; (repeat rw [if_neg (by omega)]); (try rw [if_pos (by omega)]); exact fun u => absurd (by assumption) u.2) | (unfold CWA; (repeat rw [if_neg (by omega)]); (try rw [if_pos (by omega)]); exact fun u => absurd u.2 (by assumption)) | (unfold CWA; (repeat rw [if_neg (by omega)]); (try rw [if_pos (by omega)]); exact fun u => absurd (Eq.trans (Eq.symm (by assumption)) u.2) u.1) | (unfold CWA; (repeat rw [if_neg (by omega)]); (try rw [if_pos (by omega)]); exact fun u => u.1 (Eq.trans (Eq.symm (by assumption)) u.2)) | (unfold CWA; (repeat rw [if_neg (by omega)]); (try rw [if_pos (by omega)]); trivial))
      by_cases h_24 : w = 4
      · refine jtabIn hF (dflt := 68) (lo' := 1) (hi := 4) (offs := #[30, 33, 49, 65]) (len := 30) 4 65 103 (by decide +kernel) h_24 (by decide) (by decide) (by decide) rfl (by decide) ?_
        refine jblk hF [(.iload 7, 2)] (by decide +kernel) (pc' := 105) (lo' := [(7, (0, 0)), (6, (0, 1)), (0, (2, 3)), (1, (0, w)), (2, (2, v)), (3, (0, n)), (4, (1, x))]) (st' := [(0, 0)]) rfl ?_
        refine jzret hF hr (by omega) (by decide +kernel) ?_
        exact lB0 (by first | (unfold CWA; (repeat rw [if_neg (by omega)]); (try rw [if_pos (by omega)]); assumption) | (unfold CWA; (repeat rw [if_neg (by omega)]); (try rw [if_pos (by omega)]); exact ⟨by assumption, by assumption⟩) | (unfold CWA; (repeat rw [if_neg (by omega)]); (try rw [if_pos (by omega)]); exact ⟨fun u => absurd (by assumption) (ne_of_2 u (by assumption)), by assumption⟩) | (unfold CWA; (repeat rw [if_neg (by omega)]); (try rw [if_pos (by omega)]); exact ⟨ne_of_3 (a := wL x) (by assumption) (by assumption), by assumption⟩) | (unfold CWA; (repeat rw [if_neg (by omega)]); (try rw [if_pos (by omega)]); exact fun u => absurd u.1 (by assumption)) | (unfold CWA; (repeat rw [if_neg (by omega)]); (try rw [if_pos (by omega)]); exact fun u => absurd (by assumption) u.2) | (unfold CWA; (repeat rw [if_neg (by omega)]); (try rw [if_pos (by omega)]); exact fun u => absurd u.2 (by assumption)) | (unfold CWA; (repeat rw [if_neg (by omega)]); (try rw [if_pos (by omega)]); exact fun u => absurd (Eq.trans (Eq.symm (by assumption)) u.2) u.1) | (unfold CWA; (repeat rw [if_neg (by omega)]); (try rw [if_pos (by omega)]); exact fun u => u.1 (Eq.trans (Eq.symm (by assumption)) u.2)) | (unfold CWA; (repeat rw [if_neg (by omega)]); (try rw [if_pos (by omega)]); trivial))
      refine jtabOut hF (dflt := 68) (lo' := 1) (hi := 4) (offs := #[30, 33, 49, 65]) (len := 30) 106 (by decide +kernel) (by omega) (by omega) (by decide) ?_
      refine jblk hF [(.iconst 1, 1)] (by decide +kernel) (pc' := 107) (lo' := [(7, (0, 0)), (6, (0, 1)), (0, (2, 3)), (1, (0, w)), (2, (2, v)), (3, (0, n)), (4, (1, x))]) (st' := [(0, 1)]) rfl ?_
      refine jzret hF hr (by omega) (by decide +kernel) ?_
      exact lB1 (by first | (unfold CWA; (repeat rw [if_neg (by omega)]); (try rw [if_pos (by omega)]); assumption) | (unfold CWA; (repeat rw [if_neg (by omega)]); (try rw [if_pos (by omega)]); exact ⟨by assumption, by assumption⟩) | (unfold CWA; (repeat rw [if_neg (by omega)]); (try rw [if_pos (by omega)]); exact ⟨fun u => absurd (by assumption) (ne_of_2 u (by assumption)), by assumption⟩) | (unfold CWA; (repeat rw [if_neg (by omega)]); (try rw [if_pos (by omega)]); exact ⟨ne_of_3 (a := wL x) (by assumption) (by assumption), by assumption⟩) | (unfold CWA; (repeat rw [if_neg (by omega)]); (try rw [if_pos (by omega)]); exact fun u => absurd u.1 (by assumption)) | (unfold CWA; (repeat rw [if_neg (by omega)]); (try rw [if_pos (by omega)]); exact fun u => absurd (by assumption) u.2) | (unfold CWA; (repeat rw [if_neg (by omega)]); (try rw [if_pos (by omega)]); exact fun u => absurd u.2 (by assumption)) | (unfold CWA; (repeat rw [if_neg (by omega)]); (try rw [if_pos (by omega)]); exact fun u => absurd (Eq.trans (Eq.symm (by assumption)) u.2) u.1) | (unfold CWA; (repeat rw [if_neg (by omega)]); (try rw [if_pos (by omega)]); exact fun u => u.1 (Eq.trans (Eq.symm (by assumption)) u.2)) | (unfold CWA; (repeat rw [if_neg (by omega)]); (try rw [if_pos (by omega)]); trivial))
    · refine jblk hF [(.iconst 1, 1)] (by decide +kernel) (pc' := 31) (lo' := [(6, (0, 1)), (0, (2, 3)), (1, (0, w)), (2, (2, v)), (3, (0, n)), (4, (1, x))]) (st' := [(0, 1)]) rfl ?_
      refine jgoto hF (off := 4) 35 (by decide +kernel) (by decide) ?_
      refine jblk hF [(.istore 7, 2), (.iload_n 1, 1)] (by decide +kernel) (pc' := 38) (lo' := [(7, (0, 1)), (6, (0, 1)), (0, (2, 3)), (1, (0, w)), (2, (2, v)), (3, (0, n)), (4, (1, x))]) (st' := [(0, w)]) rfl ?_
      by_cases h_25 : w = 1
      · refine jtabIn hF (dflt := 68) (lo' := 1) (hi := 4) (offs := #[30, 33, 49, 65]) (len := 30) 1 30 68 (by decide +kernel) h_25 (by decide) (by decide) (by decide) rfl (by decide) ?_
        refine jblk hF [(.iload 6, 2)] (by decide +kernel) (pc' := 70) (lo' := [(7, (0, 1)), (6, (0, 1)), (0, (2, 3)), (1, (0, w)), (2, (2, v)), (3, (0, n)), (4, (1, x))]) (st' := [(0, 1)]) rfl ?_
        refine jzret hF hr (by omega) (by decide +kernel) ?_
        exact lB1 (by first | (unfold CWA; (repeat rw [if_neg (by omega)]); (try rw [if_pos (by omega)]); assumption) | (unfold CWA; (repeat rw [if_neg (by omega)]); (try rw [if_pos (by omega)]); exact ⟨by assumption, by assumption⟩) | (unfold CWA; (repeat rw [if_neg (by omega)]); (try rw [if_pos (by omega)]); exact ⟨fun u => absurd (by assumption) (ne_of_2 u (by assumption)), by assumption⟩) | (unfold CWA; (repeat rw [if_neg (by omega)]); (try rw [if_pos (by omega)]); exact ⟨ne_of_3 (a := wL x) (by assumption) (by assumption), by assumption⟩) | (unfold CWA; (repeat rw [if_neg (by omega)]); (try rw [if_pos (by omega)]); exact fun u => absurd u.1 (by assumption)) | (unfold CWA; (repeat rw [if_neg (by omega)]); (try rw [if_pos (by omega)]); exact fun u => absurd (by assumption) u.2) | (unfold CWA; (repeat rw [if_neg (by omega)]); (try rw [if_pos (by omega)]); exact fun u => absurd u.2 (by assumption)) | (unfold CWA; (repeat rw [if_neg (by omega)]); (try rw [if_pos (by omega)]); exact fun u => absurd (Eq.trans (Eq.symm (by assumption)) u.2) u.1) | (unfold CWA; (repeat rw [if_neg (by omega)]); (try rw [if_pos (by omega)]); exact fun u => u.1 (Eq.trans (Eq.symm (by assumption)) u.2)) | (unfold CWA; (repeat rw [if_neg (by omega)]); (try rw [if_pos (by omega)]); trivial))
      by_cases h_26 : w = 2
      · refine jtabIn hF (dflt := 68) (lo' := 1) (hi := 4) (offs := #[30, 33, 49, 65]) (len := 30) 2 33 71 (by decide +kernel) h_26 (by decide) (by decide) (by decide) rfl (by decide) ?_
        refine jblk hF [(.iload 6, 2)] (by decide +kernel) (pc' := 73) (lo' := [(7, (0, 1)), (6, (0, 1)), (0, (2, 3)), (1, (0, w)), (2, (2, v)), (3, (0, n)), (4, (1, x))]) (st' := [(0, 1)]) rfl ?_
        refine jif_eq hF (off := 12) 85 (by decide +kernel) (by decide) (by decide) (fun h => absurd h (by decide)) (fun _ => ?_)
        refine jblk hF [(.iload 7, 2)] (by decide +kernel) (pc' := 78) (lo' := [(7, (0, 1)), (6, (0, 1)), (0, (2, 3)), (1, (0, w)), (2, (2, v)), (3, (0, n)), (4, (1, x))]) (st' := [(0, 1)]) rfl ?_
        refine jif_ne hF (off := 7) 85 (by decide +kernel) (by decide) (by decide) (fun _ => ?_) (fun h => absurd h (by decide))
        refine jblk hF [(.iconst 0, 1)] (by decide +kernel) (pc' := 86) (lo' := [(7, (0, 1)), (6, (0, 1)), (0, (2, 3)), (1, (0, w)), (2, (2, v)), (3, (0, n)), (4, (1, x))]) (st' := [(0, 0)]) rfl ?_
        refine jzret hF hr (by omega) (by decide +kernel) ?_
        exact lB0 (by first | (unfold CWA; (repeat rw [if_neg (by omega)]); (try rw [if_pos (by omega)]); assumption) | (unfold CWA; (repeat rw [if_neg (by omega)]); (try rw [if_pos (by omega)]); exact ⟨by assumption, by assumption⟩) | (unfold CWA; (repeat rw [if_neg (by omega)]); (try rw [if_pos (by omega)]); exact ⟨fun u => absurd (by assumption) (ne_of_2 u (by assumption)), by assumption⟩) | (unfold CWA; (repeat rw [if_neg (by omega)]); (try rw [if_pos (by omega)]); exact ⟨ne_of_3 (a := wL x) (by assumption) (by assumption), by assumption⟩) | (unfold CWA; (repeat rw [if_neg (by omega)]); (try rw [if_pos (by omega)]); exact fun u => absurd u.1 (by assumption)) | (unfold CWA; (repeat rw [if_neg (by omega)]); (try rw [if_pos (by omega)]); exact fun u => absurd (by assumption) u.2) | (unfold CWA; (repeat rw [if_neg (by omega)]); (try rw [if_pos (by omega)]); exact fun u => absurd u.2 (by assumption)) | (unfold CWA; (repeat rw [if_neg (by omega)]); (try rw [if_pos (by omega)]); exact fun u => absurd (Eq.trans (Eq.symm (by assumption)) u.2) u.1) | (unfold CWA; (repeat rw [if_neg (by omega)]); (try rw [if_pos (by omega)]); exact fun u => u.1 (Eq.trans (Eq.symm (by assumption)) u.2)) | (unfold CWA; (repeat rw [if_neg (by omega)]); (try rw [if_pos (by omega)]); trivial))
      by_cases h_29 : w = 3
      · refine jtabIn hF (dflt := 68) (lo' := 1) (hi := 4) (offs := #[30, 33, 49, 65]) (len := 30) 3 49 87 (by decide +kernel) h_29 (by decide) (by decide) (by decide) rfl (by decide) ?_
        refine jblk hF [(.iload 6, 2)] (by decide +kernel) (pc' := 89) (lo' := [(7, (0, 1)), (6, (0, 1)), (0, (2, 3)), (1, (0, w)), (2, (2, v)), (3, (0, n)), (4, (1, x))]) (st' := [(0, 1)]) rfl ?_
        refine jif_ne hF (off := 12) 101 (by decide +kernel) (by decide) (by decide) (fun _ => ?_) (fun h => absurd h (by decide))
        refine jblk hF [(.iconst 0, 1)] (by decide +kernel) (pc' := 102) (lo' := [(7, (0, 1)), (6, (0, 1)), (0, (2, 3)), (1, (0, w)), (2, (2, v)), (3, (0, n)), (4, (1, x))]) (st' := [(0, 0)]) rfl ?_
        refine jzret hF hr (by omega) (by decide +kernel) ?_
        exact lB0 (by first | (unfold CWA; (repeat rw [if_neg (by omega)]); (try rw [if_pos (by omega)]); assumption) | (unfold CWA; (repeat rw [if_neg (by omega)]); (try rw [if_pos (by omega)]); exact ⟨by assumption, by assumption⟩) | (unfold CWA; (repeat rw [if_neg (by omega)]); (try rw [if_pos (by omega)]); exact ⟨fun u => absurd (by assumption) (ne_of_2 u (by assumption)), by assumption⟩) | (unfold CWA; (repeat rw [if_neg (by omega)]); (try rw [if_pos (by omega)]); exact ⟨ne_of_3 (a := wL x) (by assumption) (by assumption), by assumption⟩) | (unfold CWA; (repeat rw [if_neg (by omega)]); (try rw [if_pos (by omega)]); exact fun u => absurd u.1 (by assumption)) | (unfold CWA; (repeat rw [if_neg (by omega)]); (try rw [if_pos (by omega)]); exact fun u => absurd (by assumption) u.2) | (unfold CWA; (repeat rw [if_neg (by omega)]); (try rw [if_pos (by omega)]); exact fun u => absurd u.2 (by assumption)) | (unfold CWA; (repeat rw [if_neg (by omega)]); (try rw [if_pos (by omega)]); exact fun u => absurd (Eq.trans (Eq.symm (by assumption)) u.2) u.1) | (unfold CWA; (repeat rw [if_neg (by omega)]); (try rw [if_pos (by omega)]); exact fun u => u.1 (Eq.trans (Eq.symm (by assumption)) u.2)) | (unfold CWA; (repeat rw [if_neg (by omega)]); (try rw [if_pos (by omega)]); trivial))
      by_cases h_31 : w = 4
      · refine jtabIn hF (dflt := 68) (lo' := 1) (hi := 4) (offs := #[30, 33, 49, 65]) (len := 30) 4 65 103 (by decide +kernel) h_31 (by decide) (by decide) (by decide) rfl (by decide) ?_
        refine jblk hF [(.iload 7, 2)] (by decide +kernel) (pc' := 105) (lo' := [(7, (0, 1)), (6, (0, 1)), (0, (2, 3)), (1, (0, w)), (2, (2, v)), (3, (0, n)), (4, (1, x))]) (st' := [(0, 1)]) rfl ?_
        refine jzret hF hr (by omega) (by decide +kernel) ?_
        exact lB1 (by first | (unfold CWA; (repeat rw [if_neg (by omega)]); (try rw [if_pos (by omega)]); assumption) | (unfold CWA; (repeat rw [if_neg (by omega)]); (try rw [if_pos (by omega)]); exact ⟨by assumption, by assumption⟩) | (unfold CWA; (repeat rw [if_neg (by omega)]); (try rw [if_pos (by omega)]); exact ⟨fun u => absurd (by assumption) (ne_of_2 u (by assumption)), by assumption⟩) | (unfold CWA; (repeat rw [if_neg (by omega)]); (try rw [if_pos (by omega)]); exact ⟨ne_of_3 (a := wL x) (by assumption) (by assumption), by assumption⟩) | (unfold CWA; (repeat rw [if_neg (by omega)]); (try rw [if_pos (by omega)]); exact fun u => absurd u.1 (by assumption)) | (unfold CWA; (repeat rw [if_neg (by omega)]); (try rw [if_pos (by omega)]); exact fun u => absurd (by assumption) u.2) | (unfold CWA; (repeat rw [if_neg (by omega)]); (try rw [if_pos (by omega)]); exact fun u => absurd u.2 (by assumption)) | (unfold CWA; (repeat rw [if_neg (by omega)]); (try rw [if_pos (by omega)]); exact fun u => absurd (Eq.trans (Eq.symm (by assumption)) u.2) u.1) | (unfold CWA; (repeat rw [if_neg (by omega)]); (try rw [if_pos (by omega)]); exact fun u => u.1 (Eq.trans (Eq.symm (by assumption)) u.2)) | (unfold CWA; (repeat rw [if_neg (by omega)]); (try rw [if_pos (by omega)]); trivial))
      refine jtabOut hF (dflt := 68) (lo' := 1) (hi := 4) (offs := #[30, 33, 49, 65]) (len := 30) 106 (by decide +kernel) (by omega) (by omega) (by decide) ?_
      refine jblk hF [(.iconst 1, 1)] (by decide +kernel) (pc' := 107) (lo' := [(7, (0, 1)), (6, (0, 1)), (0, (2, 3)), (1, (0, w)), (2, (2, v)), (3, (0, n)), (4, (1, x))]) (st' := [(0, 1)]) rfl ?_
      refine jzret hF hr (by omega) (by decide +kernel) ?_
      exact lB1 (by first | (unfold CWA; (repeat rw [if_neg (by omega)]); (try rw [if_pos (by omega)]); assumption) | (unfold CWA; (repeat rw [if_neg (by omega)]); (try rw [if_pos (by omega)]); exact ⟨by assumption, by assumption⟩) | (unfold CWA; (repeat rw [if_neg (by omega)]); (try rw [if_pos (by omega)]); exact ⟨fun u => absurd (by assumption) (ne_of_2 u (by assumption)), by assumption⟩) | (unfold CWA; (repeat rw [if_neg (by omega)]); (try rw [if_pos (by omega)]); exact ⟨ne_of_3 (a := wL x) (by assumption) (by assumption), by assumption⟩) | (unfold CWA; (repeat rw [if_neg (by omega)]); (try rw [if_pos (by omega)]); exact fun u => absurd u.1 (by assumption)) | (unfold CWA; (repeat rw [if_neg (by omega)]); (try rw [if_pos (by omega)]); exact fun u => absurd (by assumption) u.2) | (unfold CWA; (repeat rw [if_neg (by omega)]); (try rw [if_pos (by omega)]); exact fun u => absurd u.2 (by assumption)) | (unfold CWA; (repeat rw [if_neg (by omega)]); (try rw [if_pos (by omega)]); exact fun u => absurd (Eq.trans (Eq.symm (by assumption)) u.2) u.1) | (unfold CWA; (repeat rw [if_neg (by omega)]); (try rw [if_pos (by omega)]); exact fun u => u.1 (Eq.trans (Eq.symm (by assumption)) u.2)) | (unfold CWA; (repeat rw [if_neg (by omega)]); (try rw [if_pos (by omega)]); trivial))
set_option maxHeartbeats 4000000 in
set_option maxRecDepth 100000 in
theorem c_X11_compare {l : Launch} {g : GP} (hG : GH g) {kd : Int → Nat} {ln : Int → Int} {mem : Int → Int → Int} {sz : Nat} (hK : HK kd ln) (hR : HR mem) (t w : Int) (tg : Int → Int) (hI : INV kd ln mem sz tg) (hTN : TNS g) (h_t : InI t) (h_w : InI w) : MT l g yX11_compare cX11_compare 7 (some .int) 6 0 0 [(2, 3), (0, t), (0, w)] kd ln mem sz (pV (0, if (0 ≤ t ∧ t ≤ mem 35 84 - 1) ∧ (0 ≤ w ∧ w ≤ 4) ∧ mem 82 (mem 94 t) = 1 then cqW mem t (mem 94 t) w (mem 47 (mem 94 t)).toNat else -1) kd ln mem sz) := by
  refine MT_of hG (by decide +kernel) (Nat.le_of_ble_eq_true rfl) (fun z hF hr hn => ?_)
  obtain ⟨⟨q0, q1, q2, q3, q4, q5⟩, u0, u2, u46, u89, usz⟩ := hI.num
  have n32 : 0 ≤ mem 35 84 ∧ mem 35 84 ≤ 8 := ⟨hI.ots.1, hI.ots.2.1⟩
  have n29 : 0 ≤ mem 35 33 ∧ mem 35 33 ≤ 12 := ⟨hI.pgs.1, hI.pgs.2.1⟩
  obtain ⟨e32, k32, r32, b32, c32⟩ := hI.g32.ls
  obtain ⟨e29, k29, r29, b29, c29⟩ := hI.g29.ls
  refine jblk hF [(.iload_n 1, 1), (.iconst 0, 1), (.aload_n 0, 1)] (by decide +kernel) (pc' := 3) (lo' := [(0, (2, 3)), (1, (0, t)), (2, (0, w))]) (st' := [(2, 3), (0, 0), (0, t)]) rfl ?_
  refine jget hF 12 17 2 17 rfl (by decide) (by decide) rfl wd_343 (by decide +kernel) (by exact hK.k3) ?_
  rw [HR.r3_17 hR]
  refine jcallV hF (c_Jx4a65c_size_8abf5 hG 32 (by first | assumption | omega)) MW_Jx4a65c_size_8abf5 0 (by decide) (by exact hK.k32) wd_410 wd_411 wd_412 (by decide +kernel) [(0, 0), (0, t)] rfl rfl (by decide) (Nat.le_of_ble_eq_true rfl) (by decide) (kV ?_)
  rw [e32]
  refine jblk hF [(.iconst 1, 1), (.isub, 1)] (by decide +kernel) (pc' := 11) (lo' := [(0, (2, 3)), (1, (0, t)), (2, (0, w))]) (st' := [(0, (mem 35 84) - 1), (0, 0), (0, t)]) rfl ?_
  refine jcallS hF (c_X11_within hG t 0 ((mem 35 84) - 1) (by omega) (by decide) (by omega)) MW_X11_within wd_391 wd_392 (by decide +kernel) [] rfl rfl (by decide) (Nat.le_of_ble_eq_true rfl) (by decide) (kB (fun h_1 => ?_) (fun h_1 => ?_))
  · refine jif_eq hF (off := 12) 26 (by decide +kernel) (by decide) (by decide) (fun h => absurd h (by decide)) (fun _ => ?_)
    refine jblk hF [(.iload_n 2, 1), (.iconst 0, 1), (.iconst 4, 1)] (by decide +kernel) (pc' := 20) (lo' := [(0, (2, 3)), (1, (0, t)), (2, (0, w))]) (st' := [(0, 4), (0, 0), (0, w)]) rfl ?_
    refine jcallS hF (c_X11_within hG w 0 4 (by omega) (by decide) (by decide)) MW_X11_within wd_391 wd_392 (by decide +kernel) [] rfl rfl (by decide) (Nat.le_of_ble_eq_true rfl) (by decide) (kB (fun h_3 => ?_) (fun h_3 => ?_))
    · refine jif_ne hF (off := 5) 28 (by decide +kernel) (by decide) (by decide) (fun _ => ?_) (fun h => absurd h (by decide))
      refine jblk hF [(.aload_n 0, 1)] (by decide +kernel) (pc' := 29) (lo' := [(0, (2, 3)), (1, (0, t)), (2, (0, w))]) (st' := [(2, 3)]) rfl ?_
      refine jget hF 12 17 2 17 rfl (by decide) (by decide) rfl wd_343 (by decide +kernel) (by exact hK.k3) ?_
      rw [HR.r3_17 hR]
      refine jblk hF [(.iload_n 1, 1)] (by decide +kernel) (pc' := 33) (lo' := [(0, (2, 3)), (1, (0, t)), (2, (0, w))]) (st' := [(0, t), (2, 32)]) rfl ?_
      refine jcallV hF (c_Jx4a65c_get_915e3 hG 32 t (by first | assumption | omega) (by first | assumption | omega) (by omega)) MW_Jx4a65c_get_915e3 0 (by decide) (by exact hK.k32) wd_498 wd_499 wd_500 (by decide +kernel) [] rfl rfl (by decide) (Nat.le_of_ble_eq_true rfl) (by decide) (kV ?_)
      obtain ⟨cc, hcc⟩ : ∃ y : Int, y = mem (mem 32 1) t := ⟨_, rfl⟩
      have hob := hI.oth (c := t) (by omega) (by omega)
      rw [← hcc] at hob
      rw [← hcc]
      have hko := hob.1
      have ho := hob.2.1.1
      obtain ⟨o1, o2, o3⟩ := hob.2.2
      have hcp := hI.ots.2.2 t (by omega) (by omega)
      have hpgc := hI.pgs.2.2 (mem 94 t) (by omega) (by omega)
      have hkr := o2.1
      have hlr := o2.2.1
      have hrr := o2.2.2.1
      refine jcast hF 10 (by decide) wd_1164 (by decide +kernel) (by first | exact hko | exact hkr | exact hkp.1 | assumption | omega) ?_
      refine jblk hF [(.astore_n 3, 1), (.aload_n 0, 1), (.aload_n 3, 1)] (by decide +kernel) (pc' := 42) (lo' := [(3, (2, cc)), (0, (2, 3)), (1, (0, t)), (2, (0, w))]) (st' := [(2, cc), (2, 3)]) rfl ?_
      refine jget hF 10 0 0 0 rfl (by decide) (by decide) rfl wd_1171 (by decide +kernel) (by first | exact hko | exact hkr | exact hkp.1 | assumption | omega) ?_
      refine jblk hF [(.iconst 0, 1)] (by decide +kernel) (pc' := 46) (lo' := [(3, (2, cc)), (0, (2, 3)), (1, (0, t)), (2, (0, w))]) (st' := [(0, 0), (0, mem cc 0), (2, 3)]) rfl ?_
      rw [o1]
      refine jcallV hF (c_X11_plateWith hG hK hR (mem 94 t) 0 (by exact tg) (by assumption) (by omega) (by decide)) MW_X11_plateWith 12 (by decide) (by exact hK.k3) wd_1135 wd_1137 wd_p37 (by decide +kernel) [] rfl rfl (by decide) (Nat.le_of_ble_eq_true rfl) (by decide) (kR (fun v_5 h_6 => ?_))
      have hv := h_6
      refine jblk hF [(.astore 4, 2), (.aload 4, 2)] (by decide +kernel) (pc' := 53) (lo' := [(4, (2, v_5)), (3, (2, cc)), (0, (2, 3)), (1, (0, t)), (2, (0, w))]) (st' := [(2, v_5)]) rfl ?_
      refine jnonnull hF (off := 5) 58 (by decide +kernel) (by decide) (fun h_7 => ?_) (fun h_7 => ?_)
      · obtain ⟨hpg, hpo⟩ := hv.1 (by omega)
        have hgn := hpo.nm
        have hn2 := hgn.2.2.1
        have hkp := hpo.at
        have hpb := hpo.pb
        refine jblk hF [(.iconst 0, 1), (.istore 5, 2), (.iconst 0, 1), (.istore 6, 2)] (by decide +kernel) (pc' := 64) (lo' := [(6, (0, 0)), (5, (0, 0)), (4, (2, v_5)), (3, (2, cc)), (0, (2, 3)), (1, (0, t)), (2, (0, w))]) (st' := []) rfl ?_
        have L_9 : ∀ (fu_10 : Nat) (k : Int) (n : Int), (0 ≤ n ∧ n ≤ mem 47 (mem 94 t)) → (k = cqW mem t (mem 94 t) w n.toNat) →  (mem 47 (mem 94 t) - n).toNat < fu_10 → J z g 7 0 0 (QM z g 0 0 (pV (0, if (0 ≤ t ∧ t ≤ mem 35 84 - 1) ∧ (0 ≤ w ∧ w ≤ 4) ∧ mem 82 (mem 94 t) = 1 then cqW mem t (mem 94 t) w (mem 47 (mem 94 t)).toNat else -1) kd ln mem sz)) 64 [(0, (2, 3)), (1, (0, t)), (2, (0, w)), (3, (2, cc)), (4, (2, v_5)), (5, (0, k)), (6, (0, n))] [] kd ln mem sz := by
          intro fu_10
          induction fu_10 with
          | zero => intro k n _ _ hm; omega
          | succ fu_10 ih_8 =>
            intro k n hi hc hm
            have hcb := cqW_bd mem t (mem 94 t) w n.toNat
            refine jblk hF [(.iload 6, 2), (.aload 4, 2)] (by decide +kernel) (pc' := 68) (lo' := [(0, (2, 3)), (1, (0, t)), (2, (0, w)), (3, (2, cc)), (4, (2, v_5)), (5, (0, k)), (6, (0, n))]) (st' := [(2, v_5), (0, n)]) rfl ?_
            refine jget hF 4 2 0 2 rfl (by decide) (by decide) rfl wd_697 (by decide +kernel) (by first | exact hko | exact hkr | exact hkp.1 | assumption | omega) ?_
            refine jicmp_ge hF (off := 45) 116 (by decide +kernel) (by decide) (by omega) (by omega) (fun h_11 => ?_) (fun h_11 => ?_)
            · refine jblk hF [(.iload 5, 2)] (by decide +kernel) (pc' := 118) (lo' := [(0, (2, 3)), (1, (0, t)), (2, (0, w)), (3, (2, cc)), (4, (2, v_5)), (5, (0, k)), (6, (0, n))]) (st' := [(0, k)]) rfl ?_
              refine jiret hF hr (by decide +kernel) ?_
              exact lV (by (rw [if_pos ⟨by omega, by omega, hpg.2⟩, hc, show n = mem 47 (mem 94 t) by omega]))
            · refine jblk hF [(.aload_n 3, 1)] (by decide +kernel) (pc' := 75) (lo' := [(0, (2, 3)), (1, (0, t)), (2, (0, w)), (3, (2, cc)), (4, (2, v_5)), (5, (0, k)), (6, (0, n))]) (st' := [(2, cc)]) rfl ?_
              refine jget hF 10 1 2 1 rfl (by decide) (by decide) rfl wd_1173 (by decide +kernel) (by first | exact hko | exact hkr | exact hkp.1 | assumption | omega) ?_
              refine jblk hF [(.iload 6, 2)] (by decide +kernel) (pc' := 80) (lo' := [(0, (2, 3)), (1, (0, t)), (2, (0, w)), (3, (2, cc)), (4, (2, v_5)), (5, (0, k)), (6, (0, n))]) (st' := [(0, n), (2, mem cc 1)]) rfl ?_
              refine jlald hF (by decide +kernel) (by first | exact hko | exact hkr | exact hkp.1 | assumption | omega) (by omega) (by omega) ?_
              refine jldc2 hF (-1) (cst_l wd_512 (by decide)) (by decide +kernel) ?_
              have hr0 := (o3 n (by omega) (by omega)).1
              refine jlcmpW_eq hF (off := 25) 110 (by decide +kernel) (by decide +kernel) (by decide) (fun h_12 => ?_) (fun h_12 => ?_)
              · refine jblk hF [(.iinc 6 1, 3)] (by decide +kernel) (pc' := 113) (lo' := [(6, (0, n + 1)), (0, (2, 3)), (1, (0, t)), (2, (0, w)), (3, (2, cc)), (4, (2, v_5)), (5, (0, k))]) (st' := []) rfl ?_
                refine jgoto hF (off := (-49)) 64 (by decide +kernel) (by decide) ?_
                refine jsub [1, 2, 3, 4, 5, 6, 0] rfl ?_
                refine ih_8 k (n + 1) ?_ ?_ ?_
                · omega
                · (rw [cqW_s (by omega) (by omega)]; first | (rw [if_pos ⟨fun u => by have := hr0.mp u; contradiction, by assumption⟩]; omega) | (rw [if_neg (fun u => u.1 (hr0.mpr (by assumption)))]; omega) | (rw [if_neg (fun u => absurd u.2 (by assumption))]; omega))
                · omega
              · have hr1 := (o3 n (by omega) (by omega)).2 (fun u => by have := (o3 n (by omega) (by omega)).1.mp u; contradiction)
                refine jblk hF [(.aload_n 0, 1), (.iload_n 2, 1), (.aload 4, 2), (.iload 6, 2), (.aload_n 3, 1)] (by decide +kernel) (pc' := 95) (lo' := [(0, (2, 3)), (1, (0, t)), (2, (0, w)), (3, (2, cc)), (4, (2, v_5)), (5, (0, k)), (6, (0, n))]) (st' := [(2, cc), (0, n), (2, v_5), (0, w), (2, 3)]) rfl ?_
                refine jget hF 10 1 2 1 rfl (by decide) (by decide) rfl wd_1173 (by decide +kernel) (by first | exact hko | exact hkr | exact hkp.1 | assumption | omega) ?_
                refine jblk hF [(.iload 6, 2)] (by decide +kernel) (pc' := 100) (lo' := [(0, (2, 3)), (1, (0, t)), (2, (0, w)), (3, (2, cc)), (4, (2, v_5)), (5, (0, k)), (6, (0, n))]) (st' := [(0, n), (2, mem cc 1), (0, n), (2, v_5), (0, w), (2, 3)]) rfl ?_
                refine jlald hF (by decide +kernel) (by first | exact hko | exact hkr | exact hkp.1 | assumption | omega) (by omega) (by omega) ?_
                rw [hr1]
                refine jcallV hF (c_X11_countsAs hG hK hR w v_5 n (mem 95 (40 * t + n)) (by exact tg) (by assumption) (by assumption) (by omega) (by exact mem 94 t) (by exact ⟨⟨hpg.1.1, by omega, by omega⟩, hpg.2⟩) (by assumption)) MW_X11_countsAs 12 (by decide) (by exact hK.k3) wd_1227 wd_1229 wd_p38 (by decide +kernel) [] rfl rfl (by decide) (Nat.le_of_ble_eq_true rfl) (by decide) (kB (fun h_13 => ?_) (fun h_13 => ?_))
                · refine jif_eq hF (off := 6) 110 (by decide +kernel) (by decide) (by decide) (fun h => absurd h (by decide)) (fun _ => ?_)
                  refine jblk hF [(.iinc 5 1, 3), (.iinc 6 1, 3)] (by decide +kernel) (pc' := 113) (lo' := [(6, (0, n + 1)), (5, (0, k + 1)), (0, (2, 3)), (1, (0, t)), (2, (0, w)), (3, (2, cc)), (4, (2, v_5))]) (st' := []) rfl ?_
                  refine jgoto hF (off := (-49)) 64 (by decide +kernel) (by decide) ?_
                  refine jsub [2, 3, 4, 5, 6, 1, 0] rfl ?_
                  refine ih_8 (k + 1) (n + 1) ?_ ?_ ?_
                  · omega
                  · (rw [cqW_s (by omega) (by omega)]; first | (rw [if_pos ⟨fun u => by have := hr0.mp u; contradiction, by assumption⟩]; omega) | (rw [if_neg (fun u => u.1 (hr0.mpr (by assumption)))]; omega) | (rw [if_neg (fun u => absurd u.2 (by assumption))]; omega))
                  · omega
                · refine jif_eq hF (off := 6) 110 (by decide +kernel) (by decide) (by decide) (fun _ => ?_) (fun h => absurd h (by decide))
                  refine jblk hF [(.iinc 6 1, 3)] (by decide +kernel) (pc' := 113) (lo' := [(6, (0, n + 1)), (0, (2, 3)), (1, (0, t)), (2, (0, w)), (3, (2, cc)), (4, (2, v_5)), (5, (0, k))]) (st' := []) rfl ?_
                  refine jgoto hF (off := (-49)) 64 (by decide +kernel) (by decide) ?_
                  refine jsub [1, 2, 3, 4, 5, 6, 0] rfl ?_
                  refine ih_8 k (n + 1) ?_ ?_ ?_
                  · omega
                  · (rw [cqW_s (by omega) (by omega)]; first | (rw [if_pos ⟨fun u => by have := hr0.mp u; contradiction, by assumption⟩]; omega) | (rw [if_neg (fun u => u.1 (hr0.mpr (by assumption)))]; omega) | (rw [if_neg (fun u => absurd u.2 (by assumption))]; omega))
                  · omega
        refine jsub [4, 5, 6, 3, 2, 1, 0] rfl ?_
        refine L_9 _ 0 0 ?_ ?_ (Nat.lt_succ_self _)
        · omega
        · exact (cqW_0 _ _ _ _).symm
      · have hng := (hv.2 (by omega)).1
        refine jblk hF [(.iconst (-1), 1)] (by decide +kernel) (pc' := 57) (lo' := [(4, (2, v_5)), (3, (2, cc)), (0, (2, 3)), (1, (0, t)), (2, (0, w))]) (st' := [(0, (-1))]) rfl ?_
        refine jiret hF hr (by decide +kernel) ?_
        exact lV (by exact (if_neg (fun u => hng ⟨⟨⟨by omega, by omega⟩, by omega, by omega⟩, u.2.2⟩)).symm)
    · refine jif_ne hF (off := 5) 28 (by decide +kernel) (by decide) (by decide) (fun h => absurd h (by decide)) (fun _ => ?_)
      refine jblk hF [(.iconst (-1), 1)] (by decide +kernel) (pc' := 27) (lo' := [(0, (2, 3)), (1, (0, t)), (2, (0, w))]) (st' := [(0, (-1))]) rfl ?_
      refine jiret hF hr (by decide +kernel) ?_
      exact lV (by exact (if_neg (by omega)).symm)
  · refine jif_eq hF (off := 12) 26 (by decide +kernel) (by decide) (by decide) (fun _ => ?_) (fun h => absurd h (by decide))
    refine jblk hF [(.iconst (-1), 1)] (by decide +kernel) (pc' := 27) (lo' := [(0, (2, 3)), (1, (0, t)), (2, (0, w))]) (st' := [(0, (-1))]) rfl ?_
    refine jiret hF hr (by decide +kernel) ?_
    exact lV (by exact (if_neg (by omega)).symm)
set_option maxHeartbeats 4000000 in
set_option maxRecDepth 100000 in
theorem c_X11_proof {l : Launch} {g : GP} (hG : GH g) {kd : Int → Nat} {ln : Int → Int} {mem : Int → Int → Int} {sz : Nat} (hK : HK kd ln) (hR : HR mem) (p w : Int) (tg : Int → Int) (hI : INV kd ln mem sz tg) (hTN : TNS g) (h_p : InI p) (h_w : InI w) : MT l g yX11_proof cX11_proof 7 (some .int) 5 0 0 [(2, 3), (0, p), (0, w)] kd ln mem sz (pMR 0 (fun v mem' => HR mem' ∧ (SCF mem mem' ∧ ((isPlt mem p ∧ 0 ≤ w ∧ w ≤ 1) → v = (if w = 0 then pfK mem p (mem 47 p).toNat else pfF mem p (mem 47 p).toNat)) ∧ (¬ (isPlt mem p ∧ 0 ≤ w ∧ w ≤ 1) → v = -1))) kd ln sz) := by
  refine MT_of hG (by decide +kernel) (Nat.le_of_ble_eq_true rfl) (fun z hF hr hn => ?_)
  obtain ⟨⟨q0, q1, q2, q3, q4, q5⟩, u0, u2, u46, u89, usz⟩ := hI.num
  have n29 : 0 ≤ mem 35 33 ∧ mem 35 33 ≤ 12 := ⟨hI.pgs.1, hI.pgs.2.1⟩
  obtain ⟨e29, k29, r29, b29, c29⟩ := hI.g29.ls
  have hkn : 0 ≤ knw mem ∧ knw mem ≤ mem 35 0 := by unfold knw; split <;> omega
  refine jblk hF [(.aload_n 0, 1), (.iload_n 1, 1), (.aload_n 0, 1)] (by decide +kernel) (pc' := 3) (lo' := [(0, (2, 3)), (1, (0, p)), (2, (0, w))]) (st' := [(2, 3), (0, p), (2, 3)]) rfl ?_
  refine jcallV hF (c_X11_known hG hK hR (by exact tg) (by assumption)) MW_X11_known 12 (by decide) (by exact hK.k3) wd_1107 wd_403 wd_404 (by decide +kernel) [(0, p), (2, 3)] rfl rfl (by decide) (Nat.le_of_ble_eq_true rfl) (by decide) (kV ?_)
  refine jcallV hF (c_X11_madePage hG hK hR p (knw mem) (by exact tg) (by assumption) (by omega) (by omega)) MW_X11_madePage 12 (by decide) (by exact hK.k3) wd_940 wd_942 wd_p27 (by decide +kernel) [] rfl rfl (by decide) (Nat.le_of_ble_eq_true rfl) (by decide) (kMR (fun v_3 m_1 h_2 => ?_))
  obtain ⟨hR_m_1, h_2⟩ := h_2
  have hw := h_2
  have hIm := hI.scf hw.1
  refine jblk hF [(.astore_n 3, 1), (.aload_n 3, 1)] (by decide +kernel) (pc' := 11) (lo' := [(3, (2, v_3)), (0, (2, 3)), (1, (0, p)), (2, (0, w))]) (st' := [(2, v_3)]) rfl ?_
  refine jnull hF (off := 19) 30 (by decide +kernel) (by decide) (fun h_4 => ?_) (fun h_4 => ?_)
  · have hng : ¬ (isPlt mem p ∧ 0 ≤ w ∧ w ≤ 1) := fun u => by first | omega | exact (hw.2.2 (by omega)).1 ⟨u.1.1, hkn⟩ | (have := u.1.2; omega)
    refine jblk hF [(.iconst (-1), 1)] (by decide +kernel) (pc' := 31) (lo' := [(3, (2, v_3)), (0, (2, 3)), (1, (0, p)), (2, (0, w))]) (st' := [(0, (-1))]) rfl ?_
    refine jiret hF hr (by decide +kernel) ?_
    exact lMR ⟨hR_m_1, by exact ⟨hw.1, fun u => absurd u hng, fun _ => rfl⟩⟩
  · obtain ⟨hpg, hpo, hmd⟩ := hw.2.1 (by omega)
    have hk := hpo.at
    have hpm := hpo.scf hw.1 hI
    have hpb := hpm.pb
    have hgn := hpm.nm
    have hn2 := hgn.2.2.1
    have hn4 := hgn.2.2.2.2.1
    have hn7 := hgn.2.2.2.2.2.2.2.1
    have hc47 := hw.1.c47 p
    have hc49 := hw.1.c49 p
    have hc52 := hw.1.c52 p
    have hst : 0 ≤ m_1 v_3 17 ↔ m_1 82 p = 1 := hpm.set
    have e82 : m_1 82 p = mem 82 p := hw.1 82 p (by decide) (by decide) (by decide)
    refine jblk hF [(.aload_n 3, 1)] (by decide +kernel) (pc' := 15) (lo' := [(3, (2, v_3)), (0, (2, 3)), (1, (0, p)), (2, (0, w))]) (st' := [(2, v_3)]) rfl ?_
    refine jcallV hF (c_X3_isSet hG v_3 (by exact hk.1) (by omega)) MW_X3_isSet 4 (by decide) (by first | assumption | omega) wd_1139 wd_1140 wd_1141 (by decide +kernel) [] rfl rfl (by decide) (Nat.le_of_ble_eq_true rfl) (by decide) (kB (fun h_5 => ?_) (fun h_5 => ?_))
    · refine jif_eq hF (off := 12) 30 (by decide +kernel) (by decide) (by decide) (fun h => absurd h (by decide)) (fun _ => ?_)
      refine jblk hF [(.iload_n 2, 1), (.iconst 0, 1), (.iconst 1, 1)] (by decide +kernel) (pc' := 24) (lo' := [(3, (2, v_3)), (0, (2, 3)), (1, (0, p)), (2, (0, w))]) (st' := [(0, 1), (0, 0), (0, w)]) rfl ?_
      refine jcallS hF (c_X11_within hG w 0 1 (by omega) (by decide) (by decide)) MW_X11_within wd_391 wd_392 (by decide +kernel) [] rfl rfl (by decide) (Nat.le_of_ble_eq_true rfl) (by decide) (kB (fun h_7 => ?_) (fun h_7 => ?_))
      · refine jif_ne hF (off := 5) 32 (by decide +kernel) (by decide) (by decide) (fun _ => ?_) (fun h => absurd h (by decide))
        have hs1 : mem 82 p = 1 := by omega
        have hplt := hpm.plt (by omega)
        have h18 := hpm.r8 (k := 18) (by decide)
        have hrs := hIm.prs
        have hsc := hw.1
        have hs9 := fun n q1 q2 => pf_s (mem := mem) (p := p) (n := n) q1 q2
        refine jblk hF [(.iconst 0, 1), (.istore 4, 2), (.iconst (-1), 1), (.istore 5, 2), (.aload_n 3, 1)] (by decide +kernel) (pc' := 39) (lo' := [(5, (0, (-1))), (4, (0, 0)), (3, (2, v_3)), (0, (2, 3)), (1, (0, p)), (2, (0, w))]) (st' := [(2, v_3)]) rfl ?_
        refine jget hF 4 2 0 2 rfl (by decide) (by decide) rfl wd_697 (by decide +kernel) (by first | assumption | omega) ?_
        refine jblk hF [(.iconst 1, 1), (.isub, 1), (.istore 6, 2)] (by decide +kernel) (pc' := 46) (lo' := [(6, (0, (m_1 v_3 2) - 1)), (5, (0, (-1))), (4, (0, 0)), (3, (2, v_3)), (0, (2, 3)), (1, (0, p)), (2, (0, w))]) (st' := []) rfl ?_
        have L_10 : ∀ (fu_11 : Nat) (k : Int) (f : Int) (n : Int), (-1 ≤ n ∧ n ≤ mem 47 p - 1) → (k = pfK mem p (mem 47 p - 1 - n).toNat) → (f = pfF mem p (mem 47 p - 1 - n).toNat) →  (n + 1).toNat < fu_11 → J z g 7 0 0 (QM z g 0 0 (pMR 0 (fun v mem' => HR mem' ∧ (SCF mem mem' ∧ ((isPlt mem p ∧ 0 ≤ w ∧ w ≤ 1) → v = (if w = 0 then pfK mem p (mem 47 p).toNat else pfF mem p (mem 47 p).toNat)) ∧ (¬ (isPlt mem p ∧ 0 ≤ w ∧ w ≤ 1) → v = -1))) kd ln sz)) 46 [(0, (2, 3)), (1, (0, p)), (2, (0, w)), (3, (2, v_3)), (4, (0, k)), (5, (0, f)), (6, (0, n))] [] kd ln m_1 sz := by
          intro fu_11
          induction fu_11 with
          | zero => intro k f n _ _ _ hm; omega
          | succ fu_11 ih_9 =>
            intro k f n hn1 hk2 hf hm
            have hb := pfK_bd mem p (mem 47 p - 1 - n).toNat
            refine jblk hF [(.iload 6, 2)] (by decide +kernel) (pc' := 48) (lo' := [(0, (2, 3)), (1, (0, p)), (2, (0, w)), (3, (2, v_3)), (4, (0, k)), (5, (0, f)), (6, (0, n))]) (st' := [(0, n)]) rfl ?_
            refine jif_lt hF (off := 36) 84 (by decide +kernel) (by decide) (by omega) (fun h_12 => ?_) (fun h_12 => ?_)
            · refine jblk hF [(.iload_n 2, 1)] (by decide +kernel) (pc' := 85) (lo' := [(0, (2, 3)), (1, (0, p)), (2, (0, w)), (3, (2, v_3)), (4, (0, k)), (5, (0, f)), (6, (0, n))]) (st' := [(0, w)]) rfl ?_
              refine jif_ne hF (off := 8) 93 (by decide +kernel) (by decide) (by omega) (fun h_13 => ?_) (fun h_13 => ?_)
              · refine jblk hF [(.iload 5, 2)] (by decide +kernel) (pc' := 95) (lo' := [(0, (2, 3)), (1, (0, p)), (2, (0, w)), (3, (2, v_3)), (4, (0, k)), (5, (0, f)), (6, (0, n))]) (st' := [(0, f)]) rfl ?_
                refine jiret hF hr (by decide +kernel) ?_
                exact lMR ⟨hR_m_1, by first | exact ⟨hsc, fun _ => by rw [if_pos (by omega), hk2]; congr 1; omega, fun u => absurd ⟨⟨hpg.1, hs1⟩, by omega⟩ u⟩ | exact ⟨hsc, fun _ => by rw [if_neg (by omega), hf]; congr 1; omega, fun u => absurd ⟨⟨hpg.1, hs1⟩, by omega⟩ u⟩⟩
              · refine jblk hF [(.iload 4, 2)] (by decide +kernel) (pc' := 90) (lo' := [(0, (2, 3)), (1, (0, p)), (2, (0, w)), (3, (2, v_3)), (4, (0, k)), (5, (0, f)), (6, (0, n))]) (st' := [(0, k)]) rfl ?_
                refine jgoto hF (off := 5) 95 (by decide +kernel) (by decide) ?_
                refine jiret hF hr (by decide +kernel) ?_
                exact lMR ⟨hR_m_1, by first | exact ⟨hsc, fun _ => by rw [if_pos (by omega), hk2]; congr 1; omega, fun u => absurd ⟨⟨hpg.1, hs1⟩, by omega⟩ u⟩ | exact ⟨hsc, fun _ => by rw [if_neg (by omega), hf]; congr 1; omega, fun u => absurd ⟨⟨hpg.1, hs1⟩, by omega⟩ u⟩⟩
            · refine jblk hF [(.aload_n 3, 1), (.iload 6, 2)] (by decide +kernel) (pc' := 54) (lo' := [(0, (2, 3)), (1, (0, p)), (2, (0, w)), (3, (2, v_3)), (4, (0, k)), (5, (0, f)), (6, (0, n))]) (st' := [(0, n), (2, v_3)]) rfl ?_
              refine jcallV hF (c_X3_printedOf hG hK hR_m_1 v_3 n (by assumption) (by exact hk.1) (by omega) (by exact ⟨h18.1, h18.2.1, by omega⟩) (by exact fun _ => hplt.1) (by exact hpm.wa) (by omega) (by exact hplt.2.2.2) (by exact hpm.nib hrs) (by omega)) MW_X3_printedOf 4 (by decide) (by first | assumption | omega) wd_1153 wd_1154 wd_1155 (by decide +kernel) [] rfl rfl (by decide) (Nat.le_of_ble_eq_true rfl) (by decide) (kV ?_)
              refine jblk hF [(.aload_n 0, 1)] (by decide +kernel) (pc' := 58) (lo' := [(0, (2, 3)), (1, (0, p)), (2, (0, w)), (3, (2, v_3)), (4, (0, k)), (5, (0, f)), (6, (0, n))]) (st' := [(2, 3), (1, (if 0 ≤ m_1 v_3 17 ∧ 0 ≤ n ∧ n ≤ m_1 v_3 2 - 1 then (if m_1 (m_1 v_3 17) n < 0 then -(ppN (m_1 (m_1 v_3 18) n) (absV (m_1 (m_1 v_3 17) n)) 13) else ppN (m_1 (m_1 v_3 18) n) (absV (m_1 (m_1 v_3 17) n)) 13) else -1))]) rfl ?_
              refine jget hF 12 9 2 9 rfl (by decide) (by decide) rfl wd_335 (by decide +kernel) (by exact hK.k3) ?_
              rw [HR.r3_9 hR_m_1]
              refine jblk hF [(.aload_n 3, 1), (.iload 6, 2)] (by decide +kernel) (pc' := 64) (lo' := [(0, (2, 3)), (1, (0, p)), (2, (0, w)), (3, (2, v_3)), (4, (0, k)), (5, (0, f)), (6, (0, n))]) (st' := [(0, n), (2, v_3), (2, 10), (1, (if 0 ≤ m_1 v_3 17 ∧ 0 ≤ n ∧ n ≤ m_1 v_3 2 - 1 then (if m_1 (m_1 v_3 17) n < 0 then -(ppN (m_1 (m_1 v_3 18) n) (absV (m_1 (m_1 v_3 17) n)) 13) else ppN (m_1 (m_1 v_3 18) n) (absV (m_1 (m_1 v_3 17) n)) 13) else -1))]) rfl ?_
              refine jcallV hF (c_X2_keptOf hG hK hR_m_1 v_3 n (by assumption) (by exact hk.1) (by omega) (by omega)) MW_X2_keptOf 3 (by decide) (by exact hK.k10) wd_987 wd_988 wd_989 (by decide +kernel) [(1, (if 0 ≤ m_1 v_3 17 ∧ 0 ≤ n ∧ n ≤ m_1 v_3 2 - 1 then (if m_1 (m_1 v_3 17) n < 0 then -(ppN (m_1 (m_1 v_3 18) n) (absV (m_1 (m_1 v_3 17) n)) 13) else ppN (m_1 (m_1 v_3 18) n) (absV (m_1 (m_1 v_3 17) n)) 13) else -1))] rfl rfl (by decide) (Nat.le_of_ble_eq_true rfl) (by decide) (kV ?_)
              have hkv := hpo.kept hsc (hmd.1 n (by omega) (by omega))
              have hpv := hpm.prt hrs (by omega) (n := n) (by omega)
              rw [hkv, hpv, hsc.cpt p n]
              have hs8 := hs9 n (by omega) (by omega)
              refine jlcmpW_eq hF (off := 10) 78 (by decide +kernel) (by decide +kernel) (by decide) (fun h_14 => ?_) (fun h_14 => ?_)
              · refine jblk hF [(.iinc 6 (-1), 3)] (by decide +kernel) (pc' := 81) (lo' := [(6, (0, n + (-1))), (0, (2, 3)), (1, (0, p)), (2, (0, w)), (3, (2, v_3)), (4, (0, k)), (5, (0, f))]) (st' := []) rfl ?_
                refine jgoto hF (off := (-35)) 46 (by decide +kernel) (by decide) ?_
                refine jsub [1, 2, 3, 4, 5, 6, 0] rfl ?_
                refine ih_9 k f (n + (-1)) ?_ ?_ ?_ ?_
                · omega
                · (rw [show n + -1 = n - 1 by omega, hs8.1]; first | (rw [if_pos (by assumption)]; omega) | (rw [if_neg (by assumption)]; omega))
                · (rw [show n + -1 = n - 1 by omega, hs8.2]; first | (rw [if_pos (by assumption)]; omega) | (rw [if_neg (by assumption)]; done))
                · omega
              · refine jblk hF [(.iinc 4 1, 3), (.iload 6, 2), (.istore 5, 2), (.iinc 6 (-1), 3)] (by decide +kernel) (pc' := 81) (lo' := [(6, (0, n + (-1))), (5, (0, n)), (4, (0, k + 1)), (0, (2, 3)), (1, (0, p)), (2, (0, w)), (3, (2, v_3))]) (st' := []) rfl ?_
                refine jgoto hF (off := (-35)) 46 (by decide +kernel) (by decide) ?_
                refine jsub [3, 4, 5, 6, 2, 1, 0] rfl ?_
                refine ih_9 (k + 1) n (n + (-1)) ?_ ?_ ?_ ?_
                · omega
                · (rw [show n + -1 = n - 1 by omega, hs8.1]; first | (rw [if_pos (by assumption)]; omega) | (rw [if_neg (by assumption)]; omega))
                · (rw [show n + -1 = n - 1 by omega, hs8.2]; first | (rw [if_pos (by assumption)]; omega) | (rw [if_neg (by assumption)]; done))
                · omega
        refine jsub [4, 5, 6, 3, 2, 1, 0] rfl ?_
        refine L_10 _ 0 (-1) ((m_1 v_3 2) - 1) ?_ ?_ ?_ (Nat.lt_succ_self _)
        · omega
        · (rw [show (mem 47 p - 1 - (((m_1 v_3 2) - 1))).toNat = 0 by omega]; rfl)
        · (rw [show (mem 47 p - 1 - (((m_1 v_3 2) - 1))).toNat = 0 by omega]; rfl)
      · refine jif_ne hF (off := 5) 32 (by decide +kernel) (by decide) (by decide) (fun h => absurd h (by decide)) (fun _ => ?_)
        have hng : ¬ (isPlt mem p ∧ 0 ≤ w ∧ w ≤ 1) := fun u => by first | omega | exact (hw.2.2 (by omega)).1 ⟨u.1.1, hkn⟩ | (have := u.1.2; omega)
        refine jblk hF [(.iconst (-1), 1)] (by decide +kernel) (pc' := 31) (lo' := [(3, (2, v_3)), (0, (2, 3)), (1, (0, p)), (2, (0, w))]) (st' := [(0, (-1))]) rfl ?_
        refine jiret hF hr (by decide +kernel) ?_
        exact lMR ⟨hR_m_1, by exact ⟨hw.1, fun u => absurd u hng, fun _ => rfl⟩⟩
    · refine jif_eq hF (off := 12) 30 (by decide +kernel) (by decide) (by decide) (fun _ => ?_) (fun h => absurd h (by decide))
      have hng : ¬ (isPlt mem p ∧ 0 ≤ w ∧ w ≤ 1) := fun u => by first | omega | exact (hw.2.2 (by omega)).1 ⟨u.1.1, hkn⟩ | (have := u.1.2; omega)
      refine jblk hF [(.iconst (-1), 1)] (by decide +kernel) (pc' := 31) (lo' := [(3, (2, v_3)), (0, (2, 3)), (1, (0, p)), (2, (0, w))]) (st' := [(0, (-1))]) rfl ?_
      refine jiret hF hr (by decide +kernel) ?_
      exact lMR ⟨hR_m_1, by exact ⟨hw.1, fun u => absurd u hng, fun _ => rfl⟩⟩
set_option maxHeartbeats 4000000 in
set_option maxRecDepth 100000 in
theorem c_X11_kind {l : Launch} {g : GP} (hG : GH g) {kd : Int → Nat} {ln : Int → Int} {mem : Int → Int → Int} {sz : Nat} (hK : HK kd ln) (hR : HR mem) (p n q : Int) (tg : Int → Int) (hI : INV kd ln mem sz tg) (h_p : InI p) (h_n : InI n) (h_q : InI q) : MT l g yX11_kind cX11_kind 6 (some .int) 6 0 0 [(2, 3), (0, p), (0, n), (0, q)] kd ln mem sz (pMR 0 (fun v mem' => HR mem' ∧ (SCF mem mem' ∧ ((isLn mem p n ∧ isKn mem q) → ((∃ s : Int, 0 ≤ s ∧ s ≤ mem 35 45 - 1 ∧ mem 63 s = p ∧ mem 64 s = n ∧ mem 68 s ≠ -1 ∧ mem 68 s ≤ q) → v = 2) ∧ (¬ (∃ s : Int, 0 ≤ s ∧ s ≤ mem 35 45 - 1 ∧ mem 63 s = p ∧ mem 64 s = n ∧ mem 68 s ≠ -1 ∧ mem 68 s ≤ q) → ((∃ k : Int, n ≤ k ∧ k ≤ mem 47 p - 1 ∧ k ≤ n + mem 49 p + 1 ∧ k / mem 52 p = n / mem 52 p ∧ ¬ hldA mem p (adS mem p q) k) → v = 3) ∧ (¬ (∃ k : Int, n ≤ k ∧ k ≤ mem 47 p - 1 ∧ k ≤ n + mem 49 p + 1 ∧ k / mem 52 p = n / mem 52 p ∧ ¬ hldA mem p (adS mem p q) k) → v = (if n % mem 52 p > mem 49 p then 1 else 0)))) ∧ (¬ (isLn mem p n ∧ isKn mem q) → v = -1))) kd ln sz) := by
  refine MT_of hG (by decide +kernel) (Nat.le_of_ble_eq_true rfl) (fun z hF hr hn => ?_)
  obtain ⟨⟨q0, q1, q2, q3, q4, q5⟩, u0, u2, u46, u89, usz⟩ := hI.num
  have n29 : 0 ≤ mem 35 33 ∧ mem 35 33 ≤ 12 := ⟨hI.pgs.1, hI.pgs.2.1⟩
  have n30 : 0 ≤ mem 35 45 ∧ mem 35 45 ≤ 60 := ⟨hI.sls.1, hI.sls.2.1⟩
  obtain ⟨e29, k29, r29, b29, c29⟩ := hI.g29.ls
  obtain ⟨e30, k30, r30, b30, c30⟩ := hI.g30.ls
  refine jblk hF [(.aload_n 0, 1), (.iload_n 1, 1), (.iload_n 2, 1), (.iload_n 3, 1)] (by decide +kernel) (pc' := 4) (lo' := [(0, (2, 3)), (1, (0, p)), (2, (0, n)), (3, (0, q))]) (st' := [(0, q), (0, n), (0, p), (2, 3)]) rfl ?_
  refine jcallV hF (c_X11_madeWith hG hK hR p n q (by exact tg) (by assumption) (by omega) (by omega) (by omega)) MW_X11_madeWith 12 (by decide) (by exact hK.k3) wd_936 wd_938 wd_p26 (by decide +kernel) [] rfl rfl (by decide) (Nat.le_of_ble_eq_true rfl) (by decide) (kMR (fun v_3 m_1 h_2 => ?_))
  obtain ⟨hR_m_1, h_2⟩ := h_2
  have hw := h_2
  have hIm := hI.scf hw.1
  refine jblk hF [(.astore 4, 2), (.aload 4, 2)] (by decide +kernel) (pc' := 11) (lo' := [(4, (2, v_3)), (0, (2, 3)), (1, (0, p)), (2, (0, n)), (3, (0, q))]) (st' := [(2, v_3)]) rfl ?_
  refine jnonnull hF (off := 5) 16 (by decide +kernel) (by decide) (fun h_4 => ?_) (fun h_4 => ?_)
  · obtain ⟨hpg, hpo, hmd⟩ := hw.2.1 (by omega)
    have hk := hpo.at
    have hpm := hpo.scf hw.1 hI
    have hpb := hpm.pb
    have hgn := hpm.nm
    have hn2 := hgn.2.2.1
    have hn4 := hgn.2.2.2.2.1
    have hn7 := hgn.2.2.2.2.2.2.2.1
    have hc47 := hw.1.c47 p
    have hc49 := hw.1.c49 p
    have hc52 := hw.1.c52 p
    have h11 := hpm.r4 (k := 11) (by decide) (by decide)
    have h12 := hpm.r4 (k := 12) (by decide) (by decide)
    have h13 := hpm.r8 (k := 13) (Or.inl rfl)
    have hci := hpm.ci
    have hsc := hw.1
    have hsx : ((∃ s : Int, 0 ≤ s ∧ s ≤ m_1 35 45 - 1 ∧ m_1 63 s = p ∧ m_1 64 s = n ∧ m_1 68 s ≠ -1 ∧ m_1 68 s ≤ q) ↔ (∃ s : Int, 0 ≤ s ∧ s ≤ mem 35 45 - 1 ∧ mem 63 s = p ∧ mem 64 s = n ∧ mem 68 s ≠ -1 ∧ mem 68 s ≤ q)) := by rw [hsc.cg (a := 35) (by decide), hsc.cg (a := 63) (by decide), hsc.cg (a := 64) (by decide), hsc.cg (a := 68) (by decide)]
    refine jblk hF [(.aload_n 0, 1), (.iload_n 1, 1), (.iload_n 2, 1), (.iload_n 3, 1)] (by decide +kernel) (pc' := 20) (lo' := [(4, (2, v_3)), (0, (2, 3)), (1, (0, p)), (2, (0, n)), (3, (0, q))]) (st' := [(0, q), (0, n), (0, p), (2, 3)]) rfl ?_
    refine jcallV hF (c_X11_wasMended hG hK hR_m_1 p n q (by exact tg) (by assumption) (by omega) (by omega) (by omega)) MW_X11_wasMended 12 (by decide) (by exact hK.k3) wd_956 wd_958 wd_p28 (by decide +kernel) [] rfl rfl (by decide) (Nat.le_of_ble_eq_true rfl) (by decide) (kB (fun h_5 => ?_) (fun h_5 => ?_))
    · refine jif_eq hF (off := 5) 28 (by decide +kernel) (by decide) (by decide) (fun h => absurd h (by decide)) (fun _ => ?_)
      refine jblk hF [(.iconst 2, 1)] (by decide +kernel) (pc' := 27) (lo' := [(4, (2, v_3)), (0, (2, 3)), (1, (0, p)), (2, (0, n)), (3, (0, q))]) (st' := [(0, 2)]) rfl ?_
      refine jiret hF hr (by decide +kernel) ?_
      exact lMR ⟨hR_m_1, by exact ⟨hsc, fun _ => ⟨fun _ => rfl, fun u => absurd (hsx.mp (by assumption)) u⟩, fun u => absurd hpg u⟩⟩
    · refine jif_eq hF (off := 5) 28 (by decide +kernel) (by decide) (by decide) (fun _ => ?_) (fun h => absurd h (by decide))
      refine jblk hF [(.aload 4, 2)] (by decide +kernel) (pc' := 30) (lo' := [(4, (2, v_3)), (0, (2, 3)), (1, (0, p)), (2, (0, n)), (3, (0, q))]) (st' := [(2, v_3)]) rfl ?_
      have hdb := (ediv_bd n (m_1 v_3 7) (by omega)).1 (by omega)
      have hev : 0 ≤ enV m_1 v_3 (n / m_1 v_3 7) ∧ enV m_1 v_3 (n / m_1 v_3 7) ≤ 40 := by unfold enV; have := Int.mul_nonneg (a := n / m_1 v_3 7 + 1) (b := m_1 v_3 7) (by omega) (by omega); split <;> omega
      refine jblk hF [(.aload 4, 2), (.iload_n 2, 1)] (by decide +kernel) (pc' := 33) (lo' := [(4, (2, v_3)), (0, (2, 3)), (1, (0, p)), (2, (0, n)), (3, (0, q))]) (st' := [(0, n), (2, v_3), (2, v_3)]) rfl ?_
      refine jcallV hF (c_X3_blockOf hG v_3 n (by exact hk.1) (by omega) (by omega) (by omega)) MW_X3_blockOf 4 (by decide) (by first | assumption | omega) wd_961 wd_790 wd_791 (by decide +kernel) [(2, v_3)] rfl rfl (by decide) (Nat.le_of_ble_eq_true rfl) (by decide) (kV ?_)
      refine jcallV hF (c_X3_endOf hG v_3 (n / m_1 v_3 7) (by exact hk.1) (by omega) (by assumption) (by omega)) MW_X3_endOf 4 (by decide) (by first | assumption | omega) wd_962 wd_827 wd_828 (by decide +kernel) [] rfl rfl (by decide) (Nat.le_of_ble_eq_true rfl) (by decide) (kV ?_)
      refine jblk hF [(.iload_n 2, 1), (.aload 4, 2)] (by decide +kernel) (pc' := 42) (lo' := [(4, (2, v_3)), (0, (2, 3)), (1, (0, p)), (2, (0, n)), (3, (0, q))]) (st' := [(2, v_3), (0, n), (0, enV m_1 v_3 (n / m_1 v_3 7))]) rfl ?_
      refine jget hF 4 4 0 4 rfl (by decide) (by decide) rfl wd_702 (by decide +kernel) (by first | assumption | omega) ?_
      refine jblk hF [(.iadd, 1), (.iconst 2, 1), (.iadd, 1)] (by decide +kernel) (pc' := 48) (lo' := [(4, (2, v_3)), (0, (2, 3)), (1, (0, p)), (2, (0, n)), (3, (0, q))]) (st' := [(0, (n + (m_1 v_3 4)) + 2), (0, enV m_1 v_3 (n / m_1 v_3 7))]) rfl ?_
      refine jcallS hF (c_J9_min_7cf53 hG (enV m_1 v_3 (n / m_1 v_3 7)) ((n + (m_1 v_3 4)) + 2) (by omega) (by omega)) MW_J9_min_7cf53 wd_963 wd_483 (by decide +kernel) [] rfl rfl (by decide) (Nat.le_of_ble_eq_true rfl) (by decide) (kV ?_)
      refine jblk hF [(.istore 5, 2)] (by decide +kernel) (pc' := 53) (lo' := [(5, (0, if ((n + (m_1 v_3 4)) + 2) < (enV m_1 v_3 (n / m_1 v_3 7)) then ((n + (m_1 v_3 4)) + 2) else (enV m_1 v_3 (n / m_1 v_3 7)))), (4, (2, v_3)), (0, (2, 3)), (1, (0, p)), (2, (0, n)), (3, (0, q))]) (st' := []) rfl ?_
      obtain ⟨e, he⟩ : ∃ q : Int, q = if ((n + (m_1 v_3 4)) + 2) < (enV m_1 v_3 (n / m_1 v_3 7)) then ((n + (m_1 v_3 4)) + 2) else (enV m_1 v_3 (n / m_1 v_3 7)) := ⟨_, rfl⟩
      rw [← he]
      have hbe := hpm.beh (n := n) (by omega) (by omega)
      rw [← he] at hbe
      refine jblk hF [(.aload_n 0, 1)] (by decide +kernel) (pc' := 54) (lo' := [(5, (0, e)), (4, (2, v_3)), (0, (2, 3)), (1, (0, p)), (2, (0, n)), (3, (0, q))]) (st' := [(2, 3)]) rfl ?_
      refine jget hF 12 9 2 9 rfl (by decide) (by decide) rfl wd_335 (by decide +kernel) (by exact hK.k3) ?_
      rw [HR.r3_9 hR_m_1]
      refine jblk hF [(.aload 4, 2), (.iload_n 2, 1), (.iload 5, 2)] (by decide +kernel) (pc' := 62) (lo' := [(5, (0, e)), (4, (2, v_3)), (0, (2, 3)), (1, (0, p)), (2, (0, n)), (3, (0, q))]) (st' := [(0, e), (0, n), (2, v_3), (2, 10)]) rfl ?_
      refine jcallV hF (c_X2_failsFrom hG hK hR_m_1 v_3 n e (by exact hk.1) (by omega) (by exact hpb) (by omega) (by omega) (by exact ⟨h11.1, h11.2.1⟩) (by exact ⟨h12.1, h12.2.1⟩) (by exact ⟨h13.1, h13.2.1⟩) (by exact hci)) MW_X2_failsFrom 3 (by decide) (by exact hK.k10) wd_964 wd_965 wd_966 (by decide +kernel) [] rfl rfl (by decide) (Nat.le_of_ble_eq_true rfl) (by decide) (kV ?_)
      have hfk := hpo.fk hsc hmd (n := n) (e := e) (by omega) (by omega) (by rw [← hc47, ← hc49, ← hc52]; exact hbe.2.2)
      have hfb := fcS_bd m_1 (m_1 11) (c1F m_1) v_3 n (e - n).toNat
      refine jif_le hF (off := 5) 70 (by decide +kernel) (by decide) (by omega) (fun h_8 => ?_) (fun h_8 => ?_)
      · have hmo : n % m_1 v_3 7 = n % mem 52 p := by rw [hn7, hc52]
        refine jblk hF [(.aload 4, 2), (.iload_n 2, 1)] (by decide +kernel) (pc' := 73) (lo' := [(5, (0, e)), (4, (2, v_3)), (0, (2, 3)), (1, (0, p)), (2, (0, n)), (3, (0, q))]) (st' := [(0, n), (2, v_3)]) rfl ?_
        refine jcallV hF (c_X3_isMade hG v_3 n (by exact hk.1) (by omega) (by assumption) (by omega)) MW_X3_isMade 4 (by decide) (by first | assumption | omega) wd_982 wd_890 wd_891 (by decide +kernel) [] rfl rfl (by decide) (Nat.le_of_ble_eq_true rfl) (by decide) (kB (fun h_9 => ?_) (fun h_9 => ?_))
        · refine jif_eq hF (off := 7) 83 (by decide +kernel) (by decide) (by decide) (fun h => absurd h (by decide)) (fun _ => ?_)
          refine jblk hF [(.iconst 1, 1)] (by decide +kernel) (pc' := 80) (lo' := [(5, (0, e)), (4, (2, v_3)), (0, (2, 3)), (1, (0, p)), (2, (0, n)), (3, (0, q))]) (st' := [(0, 1)]) rfl ?_
          refine jgoto hF (off := 4) 84 (by decide +kernel) (by decide) ?_
          refine jiret hF hr (by decide +kernel) ?_
          exact lMR ⟨hR_m_1, by first | exact ⟨hsc, fun _ => ⟨fun u => absurd (hsx.mpr u) (by assumption), fun _ => ⟨fun u => absurd (hfk.mpr u) (by omega), fun _ => (if_pos (by omega)).symm⟩⟩, fun u => absurd hpg u⟩ | exact ⟨hsc, fun _ => ⟨fun u => absurd (hsx.mpr u) (by assumption), fun _ => ⟨fun u => absurd (hfk.mpr u) (by omega), fun _ => (if_neg (by omega)).symm⟩⟩, fun u => absurd hpg u⟩⟩
        · refine jif_eq hF (off := 7) 83 (by decide +kernel) (by decide) (by decide) (fun _ => ?_) (fun h => absurd h (by decide))
          refine jblk hF [(.iconst 0, 1)] (by decide +kernel) (pc' := 84) (lo' := [(5, (0, e)), (4, (2, v_3)), (0, (2, 3)), (1, (0, p)), (2, (0, n)), (3, (0, q))]) (st' := [(0, 0)]) rfl ?_
          refine jiret hF hr (by decide +kernel) ?_
          exact lMR ⟨hR_m_1, by first | exact ⟨hsc, fun _ => ⟨fun u => absurd (hsx.mpr u) (by assumption), fun _ => ⟨fun u => absurd (hfk.mpr u) (by omega), fun _ => (if_pos (by omega)).symm⟩⟩, fun u => absurd hpg u⟩ | exact ⟨hsc, fun _ => ⟨fun u => absurd (hsx.mpr u) (by assumption), fun _ => ⟨fun u => absurd (hfk.mpr u) (by omega), fun _ => (if_neg (by omega)).symm⟩⟩, fun u => absurd hpg u⟩⟩
      · refine jblk hF [(.iconst 3, 1)] (by decide +kernel) (pc' := 69) (lo' := [(5, (0, e)), (4, (2, v_3)), (0, (2, 3)), (1, (0, p)), (2, (0, n)), (3, (0, q))]) (st' := [(0, 3)]) rfl ?_
        refine jiret hF hr (by decide +kernel) ?_
        exact lMR ⟨hR_m_1, by exact ⟨hsc, fun _ => ⟨fun u => absurd (hsx.mpr u) (by assumption), fun _ => ⟨fun _ => rfl, fun u => absurd (hfk.mp (by omega)) u⟩⟩, fun u => absurd hpg u⟩⟩
  · have hng := (hw.2.2 (by omega)).1
    refine jblk hF [(.iconst (-1), 1)] (by decide +kernel) (pc' := 15) (lo' := [(4, (2, v_3)), (0, (2, 3)), (1, (0, p)), (2, (0, n)), (3, (0, q))]) (st' := [(0, (-1))]) rfl ?_
    refine jiret hF hr (by decide +kernel) ?_
    exact lMR ⟨hR_m_1, by exact ⟨hw.1, fun u => absurd u hng, fun _ => rfl⟩⟩
set_option maxHeartbeats 4000000 in
set_option maxRecDepth 100000 in
theorem c_X11_safe {l : Launch} {g : GP} (hG : GH g) {kd : Int → Nat} {ln : Int → Int} {mem : Int → Int → Int} {sz : Nat} (hK : HK kd ln) (hR : HR mem) (p n : Int) (tg : Int → Int) (hI : INV kd ln mem sz tg) (hTN : TNS g) (h_p : InI p) (h_n : InI n) : MT l g yX11_safe cX11_safe 8 (some .int) 5 0 0 [(2, 3), (0, p), (0, n)] kd ln mem sz (pV (0, safeA mem p n) kd ln mem sz) := by
  refine MT_of hG (by decide +kernel) (Nat.le_of_ble_eq_true rfl) (fun z hF hr hn => ?_)
  obtain ⟨⟨q0, q1, q2, q3, q4, q5⟩, u0, u2, u46, u89, usz⟩ := hI.num
  have n29 : 0 ≤ mem 35 33 ∧ mem 35 33 ≤ 12 := ⟨hI.pgs.1, hI.pgs.2.1⟩
  obtain ⟨e29, k29, r29, b29, c29⟩ := hI.g29.ls
  refine jblk hF [(.aload_n 0, 1), (.iload_n 1, 1), (.iload_n 2, 1)] (by decide +kernel) (pc' := 3) (lo' := [(0, (2, 3)), (1, (0, p)), (2, (0, n))]) (st' := [(0, n), (0, p), (2, 3)]) rfl ?_
  refine jcallV hF (c_X11_pageWith hG hK hR p n (by exact tg) (by assumption) (by omega) (by omega)) MW_X11_pageWith 12 (by decide) (by exact hK.k3) wd_869 wd_871 wd_p25 (by decide +kernel) [] rfl rfl (by decide) (Nat.le_of_ble_eq_true rfl) (by decide) (kR (fun v_1 h_2 => ?_))
  have hv := h_2
  refine jblk hF [(.astore_n 3, 1), (.aload_n 3, 1)] (by decide +kernel) (pc' := 8) (lo' := [(3, (2, v_1)), (0, (2, 3)), (1, (0, p)), (2, (0, n))]) (st' := [(2, v_1)]) rfl ?_
  refine jnonnull hF (off := 5) 13 (by decide +kernel) (by decide) (fun h_3 => ?_) (fun h_3 => ?_)
  · obtain ⟨hpg, hpo⟩ := hv.1 (by omega)
    have hk := hpo.at
    have hpb := hpo.pb
    have h14 := hpo.r8 (k := 14) (by decide)
    obtain ⟨g0, g1, g2, g3, g4, g5, g6, g7, g8⟩ := hpo.nm
    have hbn := hpo.bnd n
    have hbb := boundV_bd hpo.2.2 (n := n) (by omega) (by omega)
    obtain ⟨f1, f2, f3, f4, f5, f6, f7, f8, f9, f10⟩ := hpo.2.1.2.2.1 n (by omega) (by omega)
    have hmo : n % mem v_1 7 = n % mem 52 p := by rw [g7]
    refine jblk hF [(.aload_n 3, 1)] (by decide +kernel) (pc' := 14) (lo' := [(3, (2, v_1)), (0, (2, 3)), (1, (0, p)), (2, (0, n))]) (st' := [(2, v_1)]) rfl ?_
    refine jget hF 4 6 0 6 rfl (by decide) (by decide) rfl wd_706 (by decide +kernel) (by first | exact hk.1 | exact h14.1) ?_
    refine jif_ne hF (off := 17) 34 (by decide +kernel) (by decide) (by omega) (fun h_4 => ?_) (fun h_4 => ?_)
    · refine jblk hF [(.aload_n 3, 1)] (by decide +kernel) (pc' := 35) (lo' := [(3, (2, v_1)), (0, (2, 3)), (1, (0, p)), (2, (0, n))]) (st' := [(2, v_1)]) rfl ?_
      refine jget hF 4 6 0 6 rfl (by decide) (by decide) rfl wd_706 (by decide +kernel) (by first | exact hk.1 | exact h14.1) ?_
      rw [g6]
      refine jcallS hF (c_X11_ten hG hK hR (mem 51 p) (by assumption) (by omega)) MW_X11_ten wd_532 wd_519 (by decide +kernel) [] rfl rfl (by decide) (Nat.le_of_ble_eq_true rfl) (by decide) (kV ?_)
      have ht := ten6 (p := mem 51 p) (by omega)
      refine jblk hF [(.lstore 4, 2), (.aload_n 3, 1)] (by decide +kernel) (pc' := 44) (lo' := [(4, (1, 10 ^ (mem 51 p).toNat)), (3, (2, v_1)), (0, (2, 3)), (1, (0, p)), (2, (0, n))]) (st' := [(2, v_1)]) rfl ?_
      refine jget hF 4 14 2 14 rfl (by decide) (by decide) rfl wd_722 (by decide +kernel) (by first | exact hk.1 | exact h14.1) ?_
      refine jblk hF [(.iload_n 2, 1)] (by decide +kernel) (pc' := 48) (lo' := [(4, (1, 10 ^ (mem 51 p).toNat)), (3, (2, v_1)), (0, (2, 3)), (1, (0, p)), (2, (0, n))]) (st' := [(0, n), (2, mem v_1 14)]) rfl ?_
      refine jlald hF (by decide +kernel) (by first | exact hk.1 | exact h14.1) (by omega) (by omega) ?_
      rw [f7]
      refine jblk hF [(.lload 4, 2)] (by decide +kernel) (pc' := 51) (lo' := [(4, (1, 10 ^ (mem 51 p).toNat)), (3, (2, v_1)), (0, (2, 3)), (1, (0, p)), (2, (0, n))]) (st' := [(1, 10 ^ (mem 51 p).toNat), (1, numT mem p n)]) rfl ?_
      refine jwL1 ?_
      refine jcallS hF (c_X11_restBy hG (wL (numT mem p n)) (10 ^ (mem 51 p).toNat) (by exact wL_in _) (by omega)) MW_X11_restBy wd_543 wd_544 (by decide +kernel) [] rfl rfl (by decide) (Nat.le_of_ble_eq_true rfl) (by decide) (kV ?_)
      have hq := emod_bd2 (wL (numT mem p n)) (10 ^ (mem 51 p).toNat) (by omega)
      refine jblk hF [(.lload 4, 2)] (by decide +kernel) (pc' := 56) (lo' := [(4, (1, 10 ^ (mem 51 p).toNat)), (3, (2, v_1)), (0, (2, 3)), (1, (0, p)), (2, (0, n))]) (st' := [(1, 10 ^ (mem 51 p).toNat), (1, (wL (numT mem p n)) % (10 ^ (mem 51 p).toNat))]) rfl ?_
      refine jldc2 hF 2 (cst_l wd_556 (by decide)) (by decide +kernel) ?_
      refine jldivN hF (by decide +kernel) (by omega) (by omega) ?_
      refine jblk hF [(.lsub, 1)] (by decide +kernel) (pc' := 61) (lo' := [(4, (1, 10 ^ (mem 51 p).toNat)), (3, (2, v_1)), (0, (2, 3)), (1, (0, p)), (2, (0, n))]) (st' := [(1, ((wL (numT mem p n)) % (10 ^ (mem 51 p).toNat)) - ((10 ^ (mem 51 p).toNat) / 2))]) rfl ?_
      refine jcallS hF (c_absW hG (((wL (numT mem p n)) % (10 ^ (mem 51 p).toNat)) - ((10 ^ (mem 51 p).toNat) / 2)) (by first | exact wL_in _ | omega)) MW_J9_abs_067f4 wd_1013 wd_979 (by decide +kernel) [] rfl rfl (by decide) (Nat.le_of_ble_eq_true rfl) (by decide) (kV ?_)
      have hf_5 := absV_bd ((((wL (numT mem p n)) % (10 ^ (mem 51 p).toNat)) - ((10 ^ (mem 51 p).toNat) / 2)))
      refine jblk hF [(.lstore 6, 2), (.lload 6, 2), (.aload_n 3, 1), (.iload_n 2, 1)] (by decide +kernel) (pc' := 70) (lo' := [(6, (1, absV (((wL (numT mem p n)) % (10 ^ (mem 51 p).toNat)) - ((10 ^ (mem 51 p).toNat) / 2)))), (4, (1, 10 ^ (mem 51 p).toNat)), (3, (2, v_1)), (0, (2, 3)), (1, (0, p)), (2, (0, n))]) (st' := [(0, n), (2, v_1), (1, absV (((wL (numT mem p n)) % (10 ^ (mem 51 p).toNat)) - ((10 ^ (mem 51 p).toNat) / 2)))]) rfl ?_
      refine jcallV hF (c_X3_boundOf hG v_1 n (by first | assumption | omega) (by omega) (by assumption) (by omega)) MW_X3_boundOf 4 (by decide) (by first | exact hk.1 | exact h14.1) wd_997 wd_998 wd_999 (by decide +kernel) [(1, absV (((wL (numT mem p n)) % (10 ^ (mem 51 p).toNat)) - ((10 ^ (mem 51 p).toNat) / 2)))] rfl rfl (by decide) (Nat.le_of_ble_eq_true rfl) (by decide) (kV ?_)
      rw [hbn]
      refine jblk hF [(.aload_n 0, 1)] (by decide +kernel) (pc' := 74) (lo' := [(6, (1, absV (((wL (numT mem p n)) % (10 ^ (mem 51 p).toNat)) - ((10 ^ (mem 51 p).toNat) / 2)))), (4, (1, 10 ^ (mem 51 p).toNat)), (3, (2, v_1)), (0, (2, 3)), (1, (0, p)), (2, (0, n))]) (st' := [(2, 3), (1, boundV mem p n), (1, absV (((wL (numT mem p n)) % (10 ^ (mem 51 p).toNat)) - ((10 ^ (mem 51 p).toNat) / 2)))]) rfl ?_
      refine jget hF 12 2 0 2 rfl (by decide) (by decide) rfl wd_328 (by decide +kernel) (by exact hK.k3) ?_
      refine ji2l hF (by decide +kernel) (by omega) ?_
      refine jblk hF [(.ladd, 1)] (by decide +kernel) (pc' := 79) (lo' := [(6, (1, absV (((wL (numT mem p n)) % (10 ^ (mem 51 p).toNat)) - ((10 ^ (mem 51 p).toNat) / 2)))), (4, (1, 10 ^ (mem 51 p).toNat)), (3, (2, v_1)), (0, (2, 3)), (1, (0, p)), (2, (0, n))]) (st' := [(1, (boundV mem p n) + (mem 3 2)), (1, absV (((wL (numT mem p n)) % (10 ^ (mem 51 p).toNat)) - ((10 ^ (mem 51 p).toNat) / 2)))]) rfl ?_
      refine jlcmp_lt hF (off := 7) 87 (by decide +kernel) (by decide +kernel) (by decide) (by omega) (by omega) (fun h_6 => ?_) (fun h_6 => ?_)
      · refine jblk hF [(.iconst 0, 1)] (by decide +kernel) (pc' := 88) (lo' := [(6, (1, absV (((wL (numT mem p n)) % (10 ^ (mem 51 p).toNat)) - ((10 ^ (mem 51 p).toNat) / 2)))), (4, (1, 10 ^ (mem 51 p).toNat)), (3, (2, v_1)), (0, (2, 3)), (1, (0, p)), (2, (0, n))]) (st' := [(0, 0)]) rfl ?_
        refine jiret hF hr (by decide +kernel) ?_
        exact lV (by (unfold safeA; (try unfold absV at *); (repeat' split) <;> first | rfl | omega))
      · refine jblk hF [(.iconst 1, 1)] (by decide +kernel) (pc' := 84) (lo' := [(6, (1, absV (((wL (numT mem p n)) % (10 ^ (mem 51 p).toNat)) - ((10 ^ (mem 51 p).toNat) / 2)))), (4, (1, 10 ^ (mem 51 p).toNat)), (3, (2, v_1)), (0, (2, 3)), (1, (0, p)), (2, (0, n))]) (st' := [(0, 1)]) rfl ?_
        refine jgoto hF (off := 4) 88 (by decide +kernel) (by decide) ?_
        refine jiret hF hr (by decide +kernel) ?_
        exact lV (by (unfold safeA; (try unfold absV at *); (repeat' split) <;> first | rfl | omega))
    · refine jblk hF [(.aload_n 3, 1), (.iload_n 2, 1)] (by decide +kernel) (pc' := 22) (lo' := [(3, (2, v_1)), (0, (2, 3)), (1, (0, p)), (2, (0, n))]) (st' := [(0, n), (2, v_1)]) rfl ?_
      refine jcallV hF (c_X3_isMade hG v_1 n (by first | assumption | omega) (by omega) (by assumption) (by omega)) MW_X3_isMade 4 (by decide) (by first | exact hk.1 | exact h14.1) wd_982 wd_890 wd_891 (by decide +kernel) [] rfl rfl (by decide) (Nat.le_of_ble_eq_true rfl) (by decide) (kB (fun h_7 => ?_) (fun h_7 => ?_))
      · refine jif_eq hF (off := 7) 32 (by decide +kernel) (by decide) (by decide) (fun h => absurd h (by decide)) (fun _ => ?_)
        refine jblk hF [(.iconst 0, 1)] (by decide +kernel) (pc' := 29) (lo' := [(3, (2, v_1)), (0, (2, 3)), (1, (0, p)), (2, (0, n))]) (st' := [(0, 0)]) rfl ?_
        refine jgoto hF (off := 4) 33 (by decide +kernel) (by decide) ?_
        refine jiret hF hr (by decide +kernel) ?_
        exact lV (by (unfold safeA; (try unfold absV at *); (repeat' split) <;> first | rfl | omega))
      · refine jif_eq hF (off := 7) 32 (by decide +kernel) (by decide) (by decide) (fun _ => ?_) (fun h => absurd h (by decide))
        refine jblk hF [(.iconst 1, 1)] (by decide +kernel) (pc' := 33) (lo' := [(3, (2, v_1)), (0, (2, 3)), (1, (0, p)), (2, (0, n))]) (st' := [(0, 1)]) rfl ?_
        refine jiret hF hr (by decide +kernel) ?_
        exact lV (by (unfold safeA; (try unfold absV at *); (repeat' split) <;> first | rfl | omega))
  · have hng := (hv.2 (by omega)).1
    refine jblk hF [(.iconst (-1), 1)] (by decide +kernel) (pc' := 12) (lo' := [(3, (2, v_1)), (0, (2, 3)), (1, (0, p)), (2, (0, n))]) (st' := [(0, (-1))]) rfl ?_
    refine jiret hF hr (by decide +kernel) ?_
    exact lV (by (unfold safeA; (try unfold absV at *); (repeat' split) <;> first | rfl | omega))
end
