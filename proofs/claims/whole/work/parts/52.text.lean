section
theorem by_sh {a s : Int} {k : Nat} (hs : s = 24 - 8 * (k : Int)) (hk : k < 4) : fand (fiushr a s) 255 = byteI a k ∧ 0 ≤ byteI a k ∧ byteI a k ≤ 255 := by
  refine ⟨?_, byteI_bd a k⟩
  match k, hk with
  | 0, _ => rw [show s = ((24 : Nat) : Int) by omega, fiushr_byte (by omega)]; rfl
  | 1, _ => rw [show s = ((16 : Nat) : Int) by omega, fiushr_byte (by omega)]; rfl
  | 2, _ => rw [show s = ((8 : Nat) : Int) by omega, fiushr_byte (by omega)]; rfl
  | 3, _ => rw [show s = ((0 : Nat) : Int) by omega, fiushr_byte (by omega)]; show a / 1 % 256 = a % 256; rw [Int.ediv_one]
/-- bytes put behind a text's -/
def fdP (p r : Int) (B : Int → Int) (mem : Int → Int → Int) : Nat → Int → Int → Int
  | 0 => mem
  | k + 1 => if B k = 0 then fdP p r B mem k else set2 (set2 (fdP p r B mem k) r (fdP p r B mem k p 1) (B k)) p 1 (fdP p r B mem k p 1 + 1)
theorem fdP_size (p r : Int) (B : Int → Int) (mem : Int → Int → Int) : ∀ k : Nat, fdP p r B mem k p 1 = mem p 1 + nzc B k := by
  intro k
  induction k with
  | zero => simp [fdP, nzc]
  | succ k ih =>
    unfold fdP nzc
    by_cases h : B k = 0
    · rw [if_pos h, if_pos h, ih]; omega
    · rw [if_neg h, if_neg h, s2_s, ih]; omega
theorem fdP_row {p r : Int} (hr : r ≠ p) (B : Int → Int) (mem : Int → Int → Int) : ∀ k : Nat, fdP p r B mem k p 0 = mem p 0 := by
  intro k
  induction k with
  | zero => rfl
  | succ k ih =>
    unfold fdP
    split
    · exact ih
    · rw [s2_k (by decide), s2_a (Ne.symm hr)]; exact ih
theorem fdP_step {p r : Int} {B : Int → Int} {mem m : Int → Int → Int} {k : Nat} {v w : Int} (hm : m = fdP p r B mem k) (hb : ¬ B k = 0) (hr : m p 0 = r) (hv : v = B k) (hw : w = m p 1 + 1) : set2 (set2 m (m p 0) (m p 1) v) p 1 w = fdP p r B mem (k + 1) := by
  rw [fdP, if_neg hb, ← hm, hr, hv, hw]
theorem fdP_skip {p r : Int} {B : Int → Int} {mem m : Int → Int → Int} {k : Nat} (hm : m = fdP p r B mem k) (hb : B k = 0) : m = fdP p r B mem (k + 1) := by
  rw [fdP, if_pos hb, ← hm]
set_option maxHeartbeats 4000000 in
set_option maxRecDepth 100000 in
theorem c_X11_bytesIn {l : Launch} {g : GP} (hG : GH g) {kd : Int → Nat} {ln : Int → Int} {mem : Int → Int → Int} {sz : Nat} (a : Int) (h_a : InI a) : MT l g yX11_bytesIn cX11_bytesIn 3 (some .int) 0 0 0 [(0, a)] kd ln mem sz (pV (0, nzc (byteI a) 4) kd ln mem sz) := by
  refine MT_of hG (by decide +kernel) (Nat.le_of_ble_eq_true rfl) (fun z hF hr hn => ?_)
  refine jblk hF [(.iconst 0, 1), (.istore_n 1, 1), (.bipush 24, 2), (.istore_n 2, 1)] (by decide +kernel) (pc' := 5) (lo' := [(2, (0, 24)), (1, (0, 0)), (0, (0, a))]) (st' := []) rfl ?_
  have L_2 : ∀ (fu_3 : Nat) (b : Int) (s : Int) (k : Nat), (k ≤ 4 ∧ s = 24 - 8 * (k : Int)) → (b = nzc (byteI a) k) →  (s + 8).toNat < fu_3 → J z g 3 0 0 (QM z g 0 0 (pV (0, nzc (byteI a) 4) kd ln mem sz)) 5 [(0, (0, a)), (1, (0, b)), (2, (0, s))] [] kd ln mem sz := by
    intro fu_3
    induction fu_3 with
    | zero => intro b s k _ _ hm; omega
    | succ fu_3 ih_1 =>
      intro b s k hk hb hm
      have hbd := nzc_bd (byteI a) k
      refine jblk hF [(.iload_n 2, 1)] (by decide +kernel) (pc' := 6) (lo' := [(0, (0, a)), (1, (0, b)), (2, (0, s))]) (st' := [(0, s)]) rfl ?_
      refine jif_lt hF (off := 22) 28 (by decide +kernel) (by decide) (by omega) (fun h_4 => ?_) (fun h_4 => ?_)
      · refine jblk hF [(.iload_n 1, 1)] (by decide +kernel) (pc' := 29) (lo' := [(0, (0, a)), (1, (0, b)), (2, (0, s))]) (st' := [(0, b)]) rfl ?_
        refine jiret hF hr (by decide +kernel) ?_
        exact lV (by (rw [hb, show k = 4 by omega]))
      · have hby := by_sh (a := a) hk.2 (by omega)
        refine jblk hF [(.iload_n 0, 1), (.iload_n 2, 1), (.iushr, 1), (.sipush 255, 3), (.iand, 1)] (by decide +kernel) (pc' := 16) (lo' := [(0, (0, a)), (1, (0, b)), (2, (0, s))]) (st' := [(0, fand (fiushr a s) 255)]) rfl ?_
        refine jif_eq hF (off := 6) 22 (by decide +kernel) (by decide) (by omega) (fun h_5 => ?_) (fun h_5 => ?_)
        · refine jblk hF [(.iinc 2 (-8), 3)] (by decide +kernel) (pc' := 25) (lo' := [(2, (0, s + (-8))), (0, (0, a)), (1, (0, b))]) (st' := []) rfl ?_
          refine jgoto hF (off := (-20)) 5 (by decide +kernel) (by decide) ?_
          refine jsub [1, 2, 0] rfl ?_
          refine ih_1 b (s + (-8)) (k + 1) ?_ ?_ ?_
          · omega
          · rw [nzc]; split <;> omega
          · omega
        · refine jblk hF [(.iinc 1 1, 3), (.iinc 2 (-8), 3)] (by decide +kernel) (pc' := 25) (lo' := [(2, (0, s + (-8))), (1, (0, b + 1)), (0, (0, a))]) (st' := []) rfl ?_
          refine jgoto hF (off := (-20)) 5 (by decide +kernel) (by decide) ?_
          refine jsub [2, 1, 0] rfl ?_
          refine ih_1 (b + 1) (s + (-8)) (k + 1) ?_ ?_ ?_
          · omega
          · rw [nzc]; split <;> omega
          · omega
  refine jsub [2, 1, 0] rfl ?_
  refine L_2 _ 0 24 0 ?_ ?_ (Nat.lt_succ_self _)
  · omega
  · rfl
set_option maxHeartbeats 4000000 in
set_option maxRecDepth 100000 in
theorem c_X10_addBytes {l : Launch} {g : GP} (hG : GH g) {kd : Int → Nat} {ln : Int → Int} {mem : Int → Int → Int} {sz : Nat} (p : Int) (a : Int) (r : Int) (hkp : kd p = 12) (hp0 : 0 ≤ p) (hr0 : mem p 0 = r ∧ kd r = 20 ∧ 3 ≤ r) (hln : ln r ≤ 160 ∧ 0 ≤ mem p 1 ∧ mem p 1 + nzc (byteI a) 4 ≤ ln r) (h_a : InI a) : MT l g yX10_addBytes cX10_addBytes 4 none 0 0 0 [(2, p), (0, a)] kd ln mem sz (pMV (fun mem' => (mem' = fdP p r (byteI a) mem 4)) kd ln sz) := by
  refine MT_of hG (by decide +kernel) (Nat.le_of_ble_eq_true rfl) (fun z hF hr hn => ?_)
  refine jblk hF [(.bipush 24, 2), (.istore_n 2, 1)] (by decide +kernel) (pc' := 3) (lo' := [(2, (0, 24)), (0, (2, p)), (1, (0, a))]) (st' := []) rfl ?_
  have L_2 : ∀ (fu_3 : Nat) (s : Int) (m : Int → Int → Int) (k : Nat), (k ≤ 4 ∧ s = 24 - 8 * (k : Int)) → (m = fdP p r (byteI a) mem k) →  (s + 8).toNat < fu_3 → J z g 4 0 0 (QM z g 0 0 (pMV (fun mem' => (mem' = fdP p r (byteI a) mem 4)) kd ln sz)) 3 [(0, (2, p)), (1, (0, a)), (2, (0, s))] [] kd ln m sz := by
    intro fu_3
    induction fu_3 with
    | zero => intro s m k _ _ hm; omega
    | succ fu_3 ih_1 =>
      intro s m k hk hm2 hms
      have hbd := nzc_bd (byteI a) k
      have hrp : r ≠ p := fun q1 => by (rw [q1, hkp] at hr0; omega)
      have hm0 : m p 0 = r := by rw [hm2, fdP_row hrp]; exact hr0.1
      have hm1 : m p 1 = mem p 1 + nzc (byteI a) k := by rw [hm2]; exact fdP_size _ _ _ _ _
      have hkr : kd (m p 0) = 20 := by rw [hm0]; exact hr0.2.1
      have hlr : ln (m p 0) = ln r := by rw [hm0]
      refine jblk hF [(.iload_n 2, 1)] (by decide +kernel) (pc' := 4) (lo' := [(0, (2, p)), (1, (0, a)), (2, (0, s))]) (st' := [(0, s)]) rfl ?_
      refine jif_lt hF (off := 53) 57 (by decide +kernel) (by decide) (by omega) (fun h_4 => ?_) (fun h_4 => ?_)
      · refine jvret hF hr (by decide +kernel) ?_
        exact lMV (by (rw [hm2, show k = 4 by omega]))
      · have hby := by_sh (a := a) hk.2 (by omega)
        have hmn := nzc_mono (byteI a) 4 (k + 1) (by omega)
        rw [nzc] at hmn
        refine jblk hF [(.iload_n 1, 1), (.iload_n 2, 1), (.iushr, 1), (.sipush 255, 3), (.iand, 1), (.istore_n 3, 1), (.iload_n 3, 1)] (by decide +kernel) (pc' := 16) (lo' := [(3, (0, fand (fiushr a s) 255)), (0, (2, p)), (1, (0, a)), (2, (0, s))]) (st' := [(0, fand (fiushr a s) 255)]) rfl ?_
        refine jif_eq hF (off := 35) 51 (by decide +kernel) (by decide) (by omega) (fun h_5 => ?_) (fun h_5 => ?_)
        · refine jblk hF [(.iinc 2 (-8), 3)] (by decide +kernel) (pc' := 54) (lo' := [(2, (0, s + (-8))), (3, (0, fand (fiushr a s) 255)), (0, (2, p)), (1, (0, a))]) (st' := []) rfl ?_
          refine jgoto hF (off := (-51)) 3 (by decide +kernel) (by decide) ?_
          refine jsub [2, 3, 0] rfl ?_
          refine ih_1 (s + (-8)) m (k + 1) ?_ ?_ ?_
          · omega
          · first | exact fdP_skip hm2 (by omega) | exact fdP_step hm2 (by omega) hm0 hby.1 (by rw [s2_a (fun q1 => hrp (by rw [← hm0, ← q1]))])
          · omega
        · rw [if_neg (by omega)] at hmn
          refine jblk hF [(.aload_n 0, 1)] (by decide +kernel) (pc' := 20) (lo' := [(3, (0, fand (fiushr a s) 255)), (0, (2, p)), (1, (0, a)), (2, (0, s))]) (st' := [(2, p)]) rfl ?_
          refine jget hF 11 1 0 1 rfl (by decide) (by decide) rfl wd_149 (by decide +kernel) (by first | assumption | omega) ?_
          refine jblk hF [(.aload_n 0, 1)] (by decide +kernel) (pc' := 24) (lo' := [(3, (0, fand (fiushr a s) 255)), (0, (2, p)), (1, (0, a)), (2, (0, s))]) (st' := [(2, p), (0, m p 1)]) rfl ?_
          refine jget hF 11 0 2 0 rfl (by decide) (by decide) rfl wd_147 (by decide +kernel) (by first | assumption | omega) ?_
          refine jalen hF 0 (by decide) (by decide +kernel) (by first | assumption | omega) ?_
          refine jicmp_ge hF (off := 23) 51 (by decide +kernel) (by decide) (by omega) (by omega) (fun h_6 => ?_) (fun h_6 => ?_)
          · refine jblk hF [(.iinc 2 (-8), 3)] (by decide +kernel) (pc' := 54) (lo' := [(2, (0, s + (-8))), (3, (0, fand (fiushr a s) 255)), (0, (2, p)), (1, (0, a))]) (st' := []) rfl ?_
            refine jgoto hF (off := (-51)) 3 (by decide +kernel) (by decide) ?_
            refine jsub [2, 3, 0] rfl ?_
            refine ih_1 (s + (-8)) m (k + 1) ?_ ?_ ?_
            · omega
            · first | exact fdP_skip hm2 (by omega) | exact fdP_step hm2 (by omega) hm0 hby.1 (by rw [s2_a (fun q1 => hrp (by rw [← hm0, ← q1]))])
            · omega
          · refine jblk hF [(.aload_n 0, 1)] (by decide +kernel) (pc' := 32) (lo' := [(3, (0, fand (fiushr a s) 255)), (0, (2, p)), (1, (0, a)), (2, (0, s))]) (st' := [(2, p)]) rfl ?_
            refine jget hF 11 0 2 0 rfl (by decide) (by decide) rfl wd_147 (by decide +kernel) (by first | assumption | omega) ?_
            refine jblk hF [(.aload_n 0, 1)] (by decide +kernel) (pc' := 36) (lo' := [(3, (0, fand (fiushr a s) 255)), (0, (2, p)), (1, (0, a)), (2, (0, s))]) (st' := [(2, p), (2, m p 0)]) rfl ?_
            refine jget hF 11 1 0 1 rfl (by decide) (by decide) rfl wd_149 (by decide +kernel) (by first | assumption | omega) ?_
            refine jblk hF [(.iload_n 3, 1)] (by decide +kernel) (pc' := 40) (lo' := [(3, (0, fand (fiushr a s) 255)), (0, (2, p)), (1, (0, a)), (2, (0, s))]) (st' := [(0, fand (fiushr a s) 255), (0, m p 1), (2, m p 0)]) rfl ?_
            refine jiast hF (by decide +kernel) (by omega) (by first | assumption | omega) (by omega) (by omega) ?_
            refine jblk hF [(.aload_n 0, 1), (.dup, 1)] (by decide +kernel) (pc' := 43) (lo' := [(3, (0, fand (fiushr a s) 255)), (0, (2, p)), (1, (0, a)), (2, (0, s))]) (st' := [(2, p), (2, p)]) rfl ?_
            refine jget hF 11 1 0 1 rfl (by decide) (by decide) rfl wd_149 (by decide +kernel) (by first | assumption | omega) ?_
            refine jblk hF [(.iconst 1, 1), (.iadd, 1)] (by decide +kernel) (pc' := 48) (lo' := [(3, (0, fand (fiushr a s) 255)), (0, (2, p)), (1, (0, a)), (2, (0, s))]) (st' := [(0, ((set2 m (m p 0) (m p 1) (fand (fiushr a s) 255)) p 1) + 1), (2, p)]) rfl ?_
            refine jput hF 11 1 0 1 rfl (by decide) (by decide) rfl wd_149 (by decide +kernel) rfl (Or.inl rfl) (by first | assumption | omega) (fun h => by cases h) ?_
            refine jblk hF [(.iinc 2 (-8), 3)] (by decide +kernel) (pc' := 54) (lo' := [(2, (0, s + (-8))), (3, (0, fand (fiushr a s) 255)), (0, (2, p)), (1, (0, a))]) (st' := []) rfl ?_
            refine jgoto hF (off := (-51)) 3 (by decide +kernel) (by decide) ?_
            refine jsub [2, 3, 0] rfl ?_
            refine ih_1 (s + (-8)) (set2 (set2 m (m p 0) (m p 1) (fand (fiushr a s) 255)) p 1 (((set2 m (m p 0) (m p 1) (fand (fiushr a s) 255)) p 1) + 1)) (k + 1) ?_ ?_ ?_
            · omega
            · first | exact fdP_skip hm2 (by omega) | exact fdP_step hm2 (by omega) hm0 hby.1 (by rw [s2_a (fun q1 => hrp (by rw [← hm0, ← q1]))])
            · omega
  refine jsub [1, 2, 0] rfl ?_
  refine L_2 _ 24 mem 0 ?_ ?_ (Nat.lt_succ_self _)
  · omega
  · rfl
end
