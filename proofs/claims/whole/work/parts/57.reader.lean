section
/-- what a reading leaves: the place, the fault, the worth -/
def envR (mem : Int → Int → Int) : Int → Int := fun x => if x = 110 then mem 7 3 else if x = 98 then mem 7 4 else mem 7 5
def RES (mem mm : Int → Int → Int) (rr : PR) (v : Int) : Prop := (-2147483648 ≤ v ∧ v ≤ 2147483647) ∧ (rr.1 = -1 → mm = upR mem rr.2.1 (-1) ∧ EV (envR mem) rr.2.2 v) ∧ (rr.1 ≠ -1 → ∃ a' : Int, mm = upR mem a' rr.1)
theorem RES.ok {mem mm : Int → Int → Int} {rr : PR} {a v : Int} {cs : List Int} (hb : -2147483648 ≤ v ∧ v ≤ 2147483647) (hr : rr = okP a cs) (hm : mm = upR mem a (-1)) (hv : EV (envR mem) cs v) : RES mem mm rr v := by
  subst hr
  exact ⟨hb, fun _ => ⟨hm, hv⟩, fun q1 => absurd rfl q1⟩
theorem RES.er {mem mm : Int → Int → Int} {rr : PR} {a w v : Int} (hb : -2147483648 ≤ v ∧ v ≤ 2147483647) (hr : rr = erP w) (hw : w ≠ -1) (hm : mm = upR mem a w) : RES mem mm rr v := by
  subst hr
  exact ⟨hb, fun q1 => absurd q1 hw, fun _ => ⟨a, hm⟩⟩
theorem numL_stop {T : Int → Int} {L a v : Int} (h : ¬ (a < L ∧ isDg (T a))) (k : Nat) : numL T L k a v = okP a [0, v] := by
  cases k with
  | zero => rw [numL, if_neg h]
  | succ k => rw [numL, if_neg h]
theorem numL_full {T : Int → Int} {L a v : Int} (h : a < L ∧ isDg (T a)) : numL T L 0 a v = erP a := by rw [numL, if_pos h]
theorem numL_more {T : Int → Int} {L a v : Int} (h : a < L ∧ isDg (T a)) {k k2 : Nat} (hk : k2 = k + 1) : numL T L k2 a v = numL T L k (a + 1) (10 * v + (T a - 48)) := by rw [hk, numL, if_pos h]
theorem numP_in {T : Int → Int} {L a : Int} (h : a < L) (h2 : isDg (T a)) : numP T L a = numL T L 4 a 0 := if_pos (by rw [chr_in h]; exact h2)
/-- the next clause's end -/
def nxN (T : Int → Int) (L : Int) : Nat → Int → Int
  | 0, a => a
  | k + 1, a => if a < L ∧ T a ≠ 59 then nxN T L k (a + 1) else a
def nxC (T : Int → Int) (L a : Int) : Int := nxN T L (L - a).toNat a
theorem nxC_step {T : Int → Int} {L a : Int} (h : a < L) (h2 : T a ≠ 59) : nxC T L a = nxC T L (a + 1) := by
  unfold nxC
  rw [show (L - a).toNat = (L - (a + 1)).toNat + 1 by omega, nxN, if_pos ⟨h, h2⟩]
theorem nxC_stop {T : Int → Int} {L a : Int} (h : ¬ (a < L ∧ T a ≠ 59)) : nxC T L a = a := by
  unfold nxC
  cases (L - a).toNat with
  | zero => rfl
  | succ k => rw [nxN, if_neg h]
set_option maxHeartbeats 4000000 in
set_option maxRecDepth 100000 in
theorem c_X5_number {l : Launch} {g : GP} (hG : GH g) {kd : Int → Nat} {ln : Int → Int} {mem : Int → Int → Int} {sz : Nat} (t : Int) (r : Int) (T : Int → Int) (L : Int) (hRD : RDX kd ln t r T L mem) (h2 : mem 7 2 = -1) (ha : 0 ≤ mem 7 1 ∧ mem 7 1 < L) (hdg : isDg (T (mem 7 1))) : MT l g yX5_number cX5_number 4 (some .long) 1 0 0 [(2, 7)] kd ln mem sz (pMR 1 (fun v mem' => (RES mem mem' (numP T L (mem 7 1)) v)) kd ln sz) := by
  refine MT_of hG (by decide +kernel) (Nat.le_of_ble_eq_true rfl) (fun z hF hr hn => ?_)
  have ⟨r1, r2, r3, r4, r5, r6, r7, r8, r9, r10, r11, r12, r13⟩ := hRD
  have kt : kd (mem 7 0) = 12 := by rw [r2]; exact r3
  have kr : kd (mem (mem 7 0) 0) = 20 := by rw [r2, r5]; exact r7
  have kL : mem (mem 7 0) 1 = L := by rw [r2]; exact r6
  have kT : mem (mem (mem 7 0) 0) = T := by rw [r2, r5]; exact r9
  have kn : ln (mem (mem 7 0) 0) = ln r := by rw [r2, r5]
  have kg : 3 ≤ mem 7 0 ∧ 3 ≤ mem (mem 7 0) 0 := by rw [r2, r5]; omega
  refine jlconst hF (n := 0) 0 rfl (by decide +kernel) ?_
  refine jblk hF [(.lstore_n 1, 1), (.iconst 0, 1), (.istore_n 3, 1)] (by decide +kernel) (pc' := 4) (lo' := [(3, (0, 0)), (1, (1, 0)), (0, (2, 7))]) (st' := []) rfl ?_
  have L_2 : ∀ (fu_3 : Nat) (v : Int) (d : Int) (m : Int → Int → Int) (a : Int), (m = upR mem a (-1)) → (0 ≤ d ∧ d ≤ 4 ∧ a = mem 7 1 + d ∧ a ≤ L) → (0 ≤ v ∧ ((d = 0 ∧ v = 0) ∨ (d = 1 ∧ v ≤ 9) ∨ (d = 2 ∧ v ≤ 99) ∨ (d = 3 ∧ v ≤ 999) ∨ (d = 4 ∧ v ≤ 9999))) → (numL T L (4 - d).toNat a v = numL T L 4 (mem 7 1) 0) →  (5 - d).toNat < fu_3 → J z g 4 0 0 (QM z g 0 0 (pMR 1 (fun v mem' => (RES mem mem' (numP T L (mem 7 1)) v)) kd ln sz)) 4 [(0, (2, 7)), (1, (1, v)), (3, (0, d))] [] kd ln m sz := by
    intro fu_3
    induction fu_3 with
    | zero => intro v d m a _ _ _ _ hm; omega
    | succ fu_3 ih_1 =>
      intro v d m a hm2 hd hv hnu hm
      have hRD2 : RDX kd ln t r T L m := by rw [hm2]; exact hRD.up
      have ⟨m1, m2, m3, m4, m5, m6, m7, m8, m9, m10, m11, m12, m13⟩ := hRD2
      have kt2 : kd (m 7 0) = 12 := by rw [m2]; exact m3
      have kr2 : kd (m (m 7 0) 0) = 20 := by rw [m2, m5]; exact m7
      have kL2 : m (m 7 0) 1 = L := by rw [m2]; exact m6
      have kT2 : m (m (m 7 0) 0) = T := by rw [m2, m5]; exact m9
      have kn2 : ln (m (m 7 0) 0) = ln r := by rw [m2, m5]
      have kg2 : 3 ≤ m 7 0 ∧ 3 ≤ m (m 7 0) 0 := by rw [m2, m5]; omega
      have ka : m 7 1 = a := by rw [hm2]; exact upR_1
      have kTa : m (m (m 7 0) 0) (m 7 1) = T a := by rw [kT2, ka]
      have k72 : m 7 2 = -1 := by rw [hm2]; exact upR_2
      refine jblk hF [(.aload_n 0, 1)] (by decide +kernel) (pc' := 5) (lo' := [(0, (2, 7)), (1, (1, v)), (3, (0, d))]) (st' := [(2, 7)]) rfl ?_
      refine jget hF 6 1 0 1 rfl (by decide) (by decide) rfl wd_171 (by decide +kernel) (by first | assumption | omega) ?_
      refine jblk hF [(.aload_n 0, 1)] (by decide +kernel) (pc' := 9) (lo' := [(0, (2, 7)), (1, (1, v)), (3, (0, d))]) (st' := [(2, 7), (0, m 7 1)]) rfl ?_
      refine jget hF 6 0 2 0 rfl (by decide) (by decide) rfl wd_170 (by decide +kernel) (by first | assumption | omega) ?_
      refine jget hF 11 1 0 1 rfl (by decide) (by decide) rfl wd_150 (by decide +kernel) (by first | assumption | omega) ?_
      refine jicmp_ge hF (off := 71) 86 (by decide +kernel) (by decide) (by omega) (by omega) (fun h_4 => ?_) (fun h_4 => ?_)
      · refine jblk hF [(.lload_n 1, 1)] (by decide +kernel) (pc' := 87) (lo' := [(0, (2, 7)), (1, (1, v)), (3, (0, d))]) (st' := [(1, v)]) rfl ?_
        refine jlret hF hr (by decide +kernel) ?_
        exact lMR (by exact RES.ok (by omega) ((numP_in ha.2 hdg).trans (hnu.symm.trans (numL_stop (fun q1 => by have e0 := q1.2; omega) _))) hm2 (EV.num ⟨by omega, by omega⟩))
      · have hTb := m13 a (by omega) (by omega)
        refine jblk hF [(.aload_n 0, 1)] (by decide +kernel) (pc' := 19) (lo' := [(0, (2, 7)), (1, (1, v)), (3, (0, d))]) (st' := [(2, 7)]) rfl ?_
        refine jget hF 6 0 2 0 rfl (by decide) (by decide) rfl wd_170 (by decide +kernel) (by first | assumption | omega) ?_
        refine jget hF 11 0 2 0 rfl (by decide) (by decide) rfl wd_148 (by decide +kernel) (by first | assumption | omega) ?_
        refine jblk hF [(.aload_n 0, 1)] (by decide +kernel) (pc' := 26) (lo' := [(0, (2, 7)), (1, (1, v)), (3, (0, d))]) (st' := [(2, 7), (2, m (m 7 0) 0)]) rfl ?_
        refine jget hF 6 1 0 1 rfl (by decide) (by decide) rfl wd_171 (by decide +kernel) (by first | assumption | omega) ?_
        refine jiald hF (by decide +kernel) (by first | assumption | omega) (by omega) (by omega) ?_
        refine jcallS hF (c_X5_isDigit hG (m (m (m 7 0) 0) (m 7 1)) (by omega)) MW_X5_isDigit wd_614 wd_615 (by decide +kernel) [] rfl rfl (by decide) (Nat.le_of_ble_eq_true rfl) (by decide) (kB (fun h_5 => ?_) (fun h_5 => ?_))
        · refine jif_eq hF (off := 53) 86 (by decide +kernel) (by decide) (by decide) (fun h => absurd h (by decide)) (fun _ => ?_)
          refine jblk hF [(.iload_n 3, 1), (.iconst 4, 1)] (by decide +kernel) (pc' := 38) (lo' := [(0, (2, 7)), (1, (1, v)), (3, (0, d))]) (st' := [(0, 4), (0, d)]) rfl ?_
          refine jicmp_ne hF (off := 9) 47 (by decide +kernel) (by decide) (by omega) (by decide) (fun h_7 => ?_) (fun h_7 => ?_)
          · refine jldc2 hF 10 (cst_l wd_621 (by decide)) (by decide +kernel) ?_
            refine jblk hF [(.lload_n 1, 1), (.lmul, 1), (.aload_n 0, 1)] (by decide +kernel) (pc' := 53) (lo' := [(0, (2, 7)), (1, (1, v)), (3, (0, d))]) (st' := [(2, 7), (1, 10 * v)]) rfl ?_
            refine jget hF 6 0 2 0 rfl (by decide) (by decide) rfl wd_170 (by decide +kernel) (by first | assumption | omega) ?_
            refine jget hF 11 0 2 0 rfl (by decide) (by decide) rfl wd_148 (by decide +kernel) (by first | assumption | omega) ?_
            refine jblk hF [(.aload_n 0, 1)] (by decide +kernel) (pc' := 60) (lo' := [(0, (2, 7)), (1, (1, v)), (3, (0, d))]) (st' := [(2, 7), (2, m (m 7 0) 0), (1, 10 * v)]) rfl ?_
            refine jget hF 6 1 0 1 rfl (by decide) (by decide) rfl wd_171 (by decide +kernel) (by first | assumption | omega) ?_
            refine jiald hF (by decide +kernel) (by first | assumption | omega) (by omega) (by omega) ?_
            refine jblk hF [(.bipush 48, 2), (.isub, 1)] (by decide +kernel) (pc' := 67) (lo' := [(0, (2, 7)), (1, (1, v)), (3, (0, d))]) (st' := [(0, (m (m (m 7 0) 0) (m 7 1)) - 48), (1, 10 * v)]) rfl ?_
            refine ji2l hF (by decide +kernel) (by omega) ?_
            refine jblk hF [(.ladd, 1), (.lstore_n 1, 1), (.iinc 3 1, 3), (.aload_n 0, 1), (.dup, 1)] (by decide +kernel) (pc' := 75) (lo' := [(3, (0, d + 1)), (1, (1, (10 * v) + ((m (m (m 7 0) 0) (m 7 1)) - 48))), (0, (2, 7))]) (st' := [(2, 7), (2, 7)]) rfl ?_
            refine jget hF 6 1 0 1 rfl (by decide) (by decide) rfl wd_171 (by decide +kernel) (by first | assumption | omega) ?_
            refine jblk hF [(.iconst 1, 1), (.iadd, 1)] (by decide +kernel) (pc' := 80) (lo' := [(3, (0, d + 1)), (1, (1, (10 * v) + ((m (m (m 7 0) 0) (m 7 1)) - 48))), (0, (2, 7))]) (st' := [(0, (m 7 1) + 1), (2, 7)]) rfl ?_
            refine jput hF 6 1 0 1 rfl (by decide) (by decide) rfl wd_171 (by decide +kernel) rfl (Or.inl rfl) (by first | assumption | omega) (fun h => by cases h) ?_
            refine jgoto hF (off := (-79)) 4 (by decide +kernel) (by decide) ?_
            refine jsub [2, 1, 0] rfl ?_
            refine ih_1 ((10 * v) + ((m (m (m 7 0) 0) (m 7 1)) - 48)) (d + 1) (set2 m 7 1 ((m 7 1) + 1)) (a + 1) ?_ ?_ ?_ ?_ ?_
            · (rw [ka, hm2, upR_s1])
            · omega
            · omega
            · (rw [kTa, ← hnu]; exact (numL_more ⟨by omega, by omega⟩ (by omega)).symm)
            · omega
          · refine jblk hF [(.aload_n 0, 1)] (by decide +kernel) (pc' := 42) (lo' := [(0, (2, 7)), (1, (1, v)), (3, (0, d))]) (st' := [(2, 7)]) rfl ?_
            refine jcallV hF (c_X5_refuse hG (by exact t) (by exact r) (by exact T) (by exact L) (by assumption) (by omega) (by omega)) MW_X5_refuse 6 (by decide) (by first | assumption | omega) wd_587 wd_589 wd_p7 (by decide +kernel) [] rfl rfl (by decide) (Nat.le_of_ble_eq_true rfl) (by decide) (kMV (fun m_8 h_9 => ?_))
            have hq5 := h_9
            refine jlconst hF (n := 0) 0 rfl (by decide +kernel) ?_
            refine jlret hF hr (by decide +kernel) ?_
            exact lMR (by exact RES.er (a := a) (w := a) (by omega) ((numP_in ha.2 hdg).trans (hnu.symm.trans (by rw [show (4 - d).toNat = 0 by omega]; exact numL_full ⟨by omega, by omega⟩))) (by omega) (by rw [hq5, ka, k72, show rfW L a (-1) = a from (if_pos rfl).trans (if_neg (by omega)), hm2, upR_up]))
        · refine jif_eq hF (off := 53) 86 (by decide +kernel) (by decide) (by decide) (fun _ => ?_) (fun h => absurd h (by decide))
          refine jblk hF [(.lload_n 1, 1)] (by decide +kernel) (pc' := 87) (lo' := [(0, (2, 7)), (1, (1, v)), (3, (0, d))]) (st' := [(1, v)]) rfl ?_
          refine jlret hF hr (by decide +kernel) ?_
          exact lMR (by exact RES.ok (by omega) ((numP_in ha.2 hdg).trans (hnu.symm.trans (numL_stop (fun q1 => by have e0 := q1.2; omega) _))) hm2 (EV.num ⟨by omega, by omega⟩))
  refine jsub [2, 1, 0] rfl ?_
  refine L_2 _ 0 0 mem (mem 7 1) ?_ ?_ ?_ ?_ (Nat.lt_succ_self _)
  · (rw [← h2]; exact upR_me mem)
  · omega
  · omega
  · rfl
set_option maxHeartbeats 4000000 in
set_option maxRecDepth 100000 in
theorem c_X5_open {l : Launch} {g : GP} (hG : GH g) {kd : Int → Nat} {ln : Int → Int} {mem : Int → Int → Int} {sz : Nat} (x : Int) (hk7 : kd 7 = 7) : MT l g yX5_open cX5_open 2 none 0 0 0 [(2, 7), (2, x)] kd ln mem sz (pMV (fun mem' => (mem' = set2 (set2 (set2 (set2 mem 7 0 x) 7 1 0) 7 2 (-1)) 7 6 0)) kd ln sz) := by
  refine MT_of hG (by decide +kernel) (Nat.le_of_ble_eq_true rfl) (fun z hF hr hn => ?_)
  refine jblk hF [(.aload_n 0, 1), (.aload_n 1, 1)] (by decide +kernel) (pc' := 2) (lo' := [(0, (2, 7)), (1, (2, x))]) (st' := [(2, x), (2, 7)]) rfl ?_
  refine jput hF 6 0 2 0 rfl (by decide) (by decide) rfl wd_170 (by decide +kernel) rfl (Or.inr (Or.inr (Or.inr (Or.inl ⟨_, rfl⟩)))) (by first | assumption | omega) (fun h => by cases h) ?_
  refine jblk hF [(.aload_n 0, 1), (.iconst 0, 1)] (by decide +kernel) (pc' := 7) (lo' := [(0, (2, 7)), (1, (2, x))]) (st' := [(0, 0), (2, 7)]) rfl ?_
  refine jput hF 6 1 0 1 rfl (by decide) (by decide) rfl wd_171 (by decide +kernel) rfl (Or.inl rfl) (by first | assumption | omega) (fun h => by cases h) ?_
  refine jblk hF [(.aload_n 0, 1), (.iconst (-1), 1)] (by decide +kernel) (pc' := 12) (lo' := [(0, (2, 7)), (1, (2, x))]) (st' := [(0, (-1)), (2, 7)]) rfl ?_
  refine jput hF 6 2 0 2 rfl (by decide) (by decide) rfl wd_172 (by decide +kernel) rfl (Or.inl rfl) (by first | assumption | omega) (fun h => by cases h) ?_
  refine jblk hF [(.aload_n 0, 1)] (by decide +kernel) (pc' := 16) (lo' := [(0, (2, 7)), (1, (2, x))]) (st' := [(2, 7)]) rfl ?_
  refine jlconst hF (n := 0) 0 rfl (by decide +kernel) ?_
  refine jput hF 6 6 1 6 rfl (by decide) (by decide) rfl wd_176 (by decide +kernel) rfl (Or.inr (Or.inr (Or.inl rfl))) (by first | assumption | omega) (fun h => by cases h) ?_
  refine jvret hF hr (by decide +kernel) ?_
  exact lMV (by rfl)
set_option maxHeartbeats 4000000 in
set_option maxRecDepth 100000 in
theorem c_X5_toNextClause {l : Launch} {g : GP} (hG : GH g) {kd : Int → Nat} {ln : Int → Int} {mem : Int → Int → Int} {sz : Nat} (t : Int) (r : Int) (T : Int → Int) (L : Int) (hRD : RDX kd ln t r T L mem) (ha : 0 ≤ mem 7 1 ∧ mem 7 1 ≤ L + 1) : MT l g yX5_toNextClause cX5_toNextClause 1 none 0 0 0 [(2, 7)] kd ln mem sz (pMV (fun mem' => (mem' = upR mem (nxC T L (mem 7 1) + 1) (mem 7 2))) kd ln sz) := by
  refine MT_of hG (by decide +kernel) (Nat.le_of_ble_eq_true rfl) (fun z hF hr hn => ?_)
  have ⟨r1, r2, r3, r4, r5, r6, r7, r8, r9, r10, r11, r12, r13⟩ := hRD
  have kt : kd (mem 7 0) = 12 := by rw [r2]; exact r3
  have kr : kd (mem (mem 7 0) 0) = 20 := by rw [r2, r5]; exact r7
  have kL : mem (mem 7 0) 1 = L := by rw [r2]; exact r6
  have kT : mem (mem (mem 7 0) 0) = T := by rw [r2, r5]; exact r9
  have kn : ln (mem (mem 7 0) 0) = ln r := by rw [r2, r5]
  have kg : 3 ≤ mem 7 0 ∧ 3 ≤ mem (mem 7 0) 0 := by rw [r2, r5]; omega
  have L_2 : ∀ (fu_3 : Nat)  (m : Int → Int → Int) (a : Int), (m = upR mem a (mem 7 2)) → (0 ≤ a ∧ a ≤ L + 1 ∧ nxC T L a = nxC T L (mem 7 1)) →  (L + 1 - a).toNat < fu_3 → J z g 1 0 0 (QM z g 0 0 (pMV (fun mem' => (mem' = upR mem (nxC T L (mem 7 1) + 1) (mem 7 2))) kd ln sz)) 0 [(0, (2, 7))] [] kd ln m sz := by
    intro fu_3
    induction fu_3 with
    | zero => intro m a _ _ hm; omega
    | succ fu_3 ih_1 =>
      intro m a hm2 hap hm
      have hRD2 : RDX kd ln t r T L m := by rw [hm2]; exact hRD.up
      have ⟨m1, m2, m3, m4, m5, m6, m7, m8, m9, m10, m11, m12, m13⟩ := hRD2
      have kt2 : kd (m 7 0) = 12 := by rw [m2]; exact m3
      have kr2 : kd (m (m 7 0) 0) = 20 := by rw [m2, m5]; exact m7
      have kL2 : m (m 7 0) 1 = L := by rw [m2]; exact m6
      have kT2 : m (m (m 7 0) 0) = T := by rw [m2, m5]; exact m9
      have kn2 : ln (m (m 7 0) 0) = ln r := by rw [m2, m5]
      have kg2 : 3 ≤ m 7 0 ∧ 3 ≤ m (m 7 0) 0 := by rw [m2, m5]; omega
      have ka : m 7 1 = a := by rw [hm2]; exact upR_1
      have kTa : m (m (m 7 0) 0) (m 7 1) = T a := by rw [kT2, ka]
      refine jblk hF [(.aload_n 0, 1)] (by decide +kernel) (pc' := 1) (lo' := [(0, (2, 7))]) (st' := [(2, 7)]) rfl ?_
      refine jget hF 6 1 0 1 rfl (by decide) (by decide) rfl wd_171 (by decide +kernel) (by first | assumption | omega) ?_
      refine jblk hF [(.aload_n 0, 1)] (by decide +kernel) (pc' := 5) (lo' := [(0, (2, 7))]) (st' := [(2, 7), (0, m 7 1)]) rfl ?_
      refine jget hF 6 0 2 0 rfl (by decide) (by decide) rfl wd_170 (by decide +kernel) (by first | assumption | omega) ?_
      refine jget hF 11 1 0 1 rfl (by decide) (by decide) rfl wd_150 (by decide +kernel) (by first | assumption | omega) ?_
      refine jicmp_ge hF (off := 33) 44 (by decide +kernel) (by decide) (by omega) (by omega) (fun h_4 => ?_) (fun h_4 => ?_)
      · have es : nxC T L (mem 7 1) = a := by rw [← hap.2.2]; exact nxC_stop (by omega)
        refine jblk hF [(.aload_n 0, 1), (.dup, 1)] (by decide +kernel) (pc' := 46) (lo' := [(0, (2, 7))]) (st' := [(2, 7), (2, 7)]) rfl ?_
        refine jget hF 6 1 0 1 rfl (by decide) (by decide) rfl wd_171 (by decide +kernel) (by first | assumption | omega) ?_
        refine jblk hF [(.iconst 1, 1), (.iadd, 1)] (by decide +kernel) (pc' := 51) (lo' := [(0, (2, 7))]) (st' := [(0, (m 7 1) + 1), (2, 7)]) rfl ?_
        refine jput hF 6 1 0 1 rfl (by decide) (by decide) rfl wd_171 (by decide +kernel) rfl (Or.inl rfl) (by first | assumption | omega) (fun h => by cases h) ?_
        refine jvret hF hr (by decide +kernel) ?_
        exact lMV (by (rw [es, ka, hm2, upR_s1]))
      · have hTb := m13 a (by omega) (by omega)
        refine jblk hF [(.aload_n 0, 1)] (by decide +kernel) (pc' := 15) (lo' := [(0, (2, 7))]) (st' := [(2, 7)]) rfl ?_
        refine jget hF 6 0 2 0 rfl (by decide) (by decide) rfl wd_170 (by decide +kernel) (by first | assumption | omega) ?_
        refine jget hF 11 0 2 0 rfl (by decide) (by decide) rfl wd_148 (by decide +kernel) (by first | assumption | omega) ?_
        refine jblk hF [(.aload_n 0, 1)] (by decide +kernel) (pc' := 22) (lo' := [(0, (2, 7))]) (st' := [(2, 7), (2, m (m 7 0) 0)]) rfl ?_
        refine jget hF 6 1 0 1 rfl (by decide) (by decide) rfl wd_171 (by decide +kernel) (by first | assumption | omega) ?_
        refine jiald hF (by decide +kernel) (by first | assumption | omega) (by omega) (by omega) ?_
        refine jblk hF [(.bipush 59, 2)] (by decide +kernel) (pc' := 28) (lo' := [(0, (2, 7))]) (st' := [(0, 59), (0, m (m (m 7 0) 0) (m 7 1))]) rfl ?_
        refine jicmp_eq hF (off := 16) 44 (by decide +kernel) (by decide) (by omega) (by decide) (fun h_5 => ?_) (fun h_5 => ?_)
        · have es : nxC T L (mem 7 1) = a := by rw [← hap.2.2]; exact nxC_stop (by omega)
          refine jblk hF [(.aload_n 0, 1), (.dup, 1)] (by decide +kernel) (pc' := 46) (lo' := [(0, (2, 7))]) (st' := [(2, 7), (2, 7)]) rfl ?_
          refine jget hF 6 1 0 1 rfl (by decide) (by decide) rfl wd_171 (by decide +kernel) (by first | assumption | omega) ?_
          refine jblk hF [(.iconst 1, 1), (.iadd, 1)] (by decide +kernel) (pc' := 51) (lo' := [(0, (2, 7))]) (st' := [(0, (m 7 1) + 1), (2, 7)]) rfl ?_
          refine jput hF 6 1 0 1 rfl (by decide) (by decide) rfl wd_171 (by decide +kernel) rfl (Or.inl rfl) (by first | assumption | omega) (fun h => by cases h) ?_
          refine jvret hF hr (by decide +kernel) ?_
          exact lMV (by (rw [es, ka, hm2, upR_s1]))
        · refine jblk hF [(.aload_n 0, 1), (.dup, 1)] (by decide +kernel) (pc' := 33) (lo' := [(0, (2, 7))]) (st' := [(2, 7), (2, 7)]) rfl ?_
          refine jget hF 6 1 0 1 rfl (by decide) (by decide) rfl wd_171 (by decide +kernel) (by first | assumption | omega) ?_
          refine jblk hF [(.iconst 1, 1), (.iadd, 1)] (by decide +kernel) (pc' := 38) (lo' := [(0, (2, 7))]) (st' := [(0, (m 7 1) + 1), (2, 7)]) rfl ?_
          refine jput hF 6 1 0 1 rfl (by decide) (by decide) rfl wd_171 (by decide +kernel) rfl (Or.inl rfl) (by first | assumption | omega) (fun h => by cases h) ?_
          refine jgoto hF (off := (-41)) 0 (by decide +kernel) (by decide) ?_
          refine jsub [0] rfl ?_
          refine ih_1 (set2 m 7 1 ((m 7 1) + 1)) (a + 1) ?_ ?_ ?_
          · (rw [ka, hm2, upR_s1])
          · exact ⟨by omega, by omega, (nxC_step (by omega) (by omega)).symm.trans hap.2.2⟩
          · omega
  refine jsub [0] rfl ?_
  refine L_2 _ mem (mem 7 1) ?_ ?_ (Nat.lt_succ_self _)
  · exact upR_me mem
  · exact ⟨by omega, by omega, rfl⟩
set_option maxHeartbeats 4000000 in
set_option maxRecDepth 100000 in
theorem c_X5_demandComparing {l : Launch} {g : GP} (hG : GH g) {kd : Int → Nat} {ln : Int → Int} {mem : Int → Int → Int} {sz : Nat} (t : Int) (r : Int) (T : Int → Int) (L : Int) (hRD : RDX kd ln t r T L mem) (ha : mem 7 2 = -1 → 0 ≤ mem 7 1 ∧ mem 7 1 ≤ L + 1) (hw : InI (mem 7 2)) : MT l g yX5_demandComparing cX5_demandComparing 2 (some .int) 1 0 0 [(2, 7)] kd ln mem sz (pMR 0 (fun v mem' => (v = nsV T L (mem 7 1) (mem 7 2) ∧ mem' = (if isSg (nsV T L (mem 7 1) (mem 7 2)) then upR mem (nsA T L (mem 7 1) (mem 7 2) + 1) (mem 7 2) else upR mem (nsA T L (mem 7 1) (mem 7 2) + 1) (rfW L (nsA T L (mem 7 1) (mem 7 2)) (mem 7 2))))) kd ln sz) := by
  refine MT_of hG (by decide +kernel) (Nat.le_of_ble_eq_true rfl) (fun z hF hr hn => ?_)
  have ⟨r1, r2, r3, r4, r5, r6, r7, r8, r9, r10, r11, r12, r13⟩ := hRD
  refine jblk hF [(.aload_n 0, 1)] (by decide +kernel) (pc' := 1) (lo' := [(0, (2, 7))]) (st' := [(2, 7)]) rfl ?_
  refine jcallV hF (c_X5_nextSign hG (by exact t) (by exact r) (by exact T) (by exact L) (by assumption) (by omega) (by omega)) MW_X5_nextSign 6 (by decide) (by first | assumption | omega) wd_580 wd_582 wd_p6 (by decide +kernel) [] rfl rfl (by decide) (Nat.le_of_ble_eq_true rfl) (by decide) (kMR (fun v_3 m_1 h_2 => ?_))
  have hq := h_2
  have hRD3 : RDX kd ln t r T L m_1 := by rw [hq.2]; exact hRD.up
  have e1 : m_1 7 1 = nsA T L (mem 7 1) (mem 7 2) := by rw [hq.2]; exact upR_1
  have e2 : m_1 7 2 = mem 7 2 := by rw [hq.2]; exact upR_2
  have hnv := nsV_bd hRD ha
  have hna := nsA_bd (T := T) ha
  refine jblk hF [(.istore_n 1, 1), (.iload_n 1, 1)] (by decide +kernel) (pc' := 6) (lo' := [(1, (0, v_3)), (0, (2, 7))]) (st' := [(0, v_3)]) rfl ?_
  refine jcallS hF (c_X5_compares hG v_3 (by omega)) MW_X5_compares wd_643 wd_644 (by decide +kernel) [] rfl rfl (by decide) (Nat.le_of_ble_eq_true rfl) (by decide) (kB (fun h_4 => ?_) (fun h_4 => ?_))
  · refine jif_ne hF (off := 7) 16 (by decide +kernel) (by decide) (by decide) (fun _ => ?_) (fun h => absurd h (by decide))
    refine jblk hF [(.aload_n 0, 1), (.dup, 1)] (by decide +kernel) (pc' := 18) (lo' := [(1, (0, v_3)), (0, (2, 7))]) (st' := [(2, 7), (2, 7)]) rfl ?_
    refine jget hF 6 1 0 1 rfl (by decide) (by decide) rfl wd_171 (by decide +kernel) (by first | assumption | omega) ?_
    refine jblk hF [(.iconst 1, 1), (.iadd, 1)] (by decide +kernel) (pc' := 23) (lo' := [(1, (0, v_3)), (0, (2, 7))]) (st' := [(0, (m_1 7 1) + 1), (2, 7)]) rfl ?_
    refine jput hF 6 1 0 1 rfl (by decide) (by decide) rfl wd_171 (by decide +kernel) rfl (Or.inl rfl) (by first | assumption | omega) (fun h => by cases h) ?_
    refine jblk hF [(.iload_n 1, 1)] (by decide +kernel) (pc' := 27) (lo' := [(1, (0, v_3)), (0, (2, 7))]) (st' := [(0, v_3)]) rfl ?_
    refine jiret hF hr (by decide +kernel) ?_
    exact lMR (by first | exact ⟨hq.1, by rw [if_pos (by omega), e1, hq.2, upR_s1]⟩ | exact ⟨hq.1, by rw [if_neg (by omega), e5, hq5, upR_s1, e1, e2, hq.2, upR_up]⟩)
  · refine jif_ne hF (off := 7) 16 (by decide +kernel) (by decide) (by decide) (fun h => absurd h (by decide)) (fun _ => ?_)
    refine jblk hF [(.aload_n 0, 1)] (by decide +kernel) (pc' := 13) (lo' := [(1, (0, v_3)), (0, (2, 7))]) (st' := [(2, 7)]) rfl ?_
    refine jcallV hF (c_X5_refuse hG (by exact t) (by exact r) (by exact T) (by exact L) (by assumption) (by omega) (by omega)) MW_X5_refuse 6 (by decide) (by first | assumption | omega) wd_587 wd_589 wd_p7 (by decide +kernel) [] rfl rfl (by decide) (Nat.le_of_ble_eq_true rfl) (by decide) (kMV (fun m_7 h_8 => ?_))
    have hq5 := h_8
    have e5 : m_7 7 1 = nsA T L (mem 7 1) (mem 7 2) := by rw [hq5, e1]; exact upR_1
    refine jblk hF [(.aload_n 0, 1), (.dup, 1)] (by decide +kernel) (pc' := 18) (lo' := [(1, (0, v_3)), (0, (2, 7))]) (st' := [(2, 7), (2, 7)]) rfl ?_
    refine jget hF 6 1 0 1 rfl (by decide) (by decide) rfl wd_171 (by decide +kernel) (by first | assumption | omega) ?_
    refine jblk hF [(.iconst 1, 1), (.iadd, 1)] (by decide +kernel) (pc' := 23) (lo' := [(1, (0, v_3)), (0, (2, 7))]) (st' := [(0, (m_7 7 1) + 1), (2, 7)]) rfl ?_
    refine jput hF 6 1 0 1 rfl (by decide) (by decide) rfl wd_171 (by decide +kernel) rfl (Or.inl rfl) (by first | assumption | omega) (fun h => by cases h) ?_
    refine jblk hF [(.iload_n 1, 1)] (by decide +kernel) (pc' := 27) (lo' := [(1, (0, v_3)), (0, (2, 7))]) (st' := [(0, v_3)]) rfl ?_
    refine jiret hF hr (by decide +kernel) ?_
    exact lMR (by first | exact ⟨hq.1, by rw [if_pos (by omega), e1, hq.2, upR_s1]⟩ | exact ⟨hq.1, by rw [if_neg (by omega), e5, hq5, upR_s1, e1, e2, hq.2, upR_up]⟩)
end
