section
/-! the page's figures, its checks -/
theorem edV_s {mem : Int → Int → Int} {p b : Int} : edV mem p (b + 1) = enV mem p b := rfl
theorem enV_cg {mem m : Int → Int → Int} {p b : Int} (h2 : m p 2 = mem p 2) (h7 : m p 7 = mem p 7) : enV m p b = enV mem p b := by unfold enV; rw [h2, h7]
/-- figures of a page, as the additions stand -/
def FPG (mem mm : Int → Int → Int) (p e : Int) : Prop := (∀ b j : Int, b ≠ 11 → b ≠ 12 → mm b j = mem b j) ∧ MBL mem mm (mem (mem p 13)) (mem 13) (mem p 4) (mem p 7) 0 e
theorem FPG.start (mem : Int → Int → Int) (p : Int) : FPG mem mem p 0 := ⟨fun _ _ _ _ => rfl, fun n q1 q2 => by omega, fun n j q1 q2 => by omega⟩
theorem MBL.join {mem m mm : Int → Int → Int} {nr ad : Int → Int} {o ml s e : Int} (h : MBL mem m nr ad o ml 0 s) (ho : o ≤ 4) (hf : FRB m mm s e) (h2 : MBL m mm nr ad o ml s e) : MBL mem mm nr ad o ml 0 e := by
  refine ⟨fun n q1 q2 => ?_, fun n j q1 q2 q3 q4 q5 => ?_⟩
  · rcases Int.lt_or_le n s with q | q
    · rw [hf 11 n (by omega) (by omega)]; exact h.1 n q1 q
    · exact h2.1 n q q2
  · rcases Int.lt_or_le n s with q | q
    · rw [hf 12 _ (by omega) (by omega)]; exact h.2 n j q1 q q3 q4 q5
    · exact h2.2 n j q q2 q3 q4 q5
/-- one more block -/
theorem FPG.step {mem m mm : Int → Int → Int} {p b s e : Int} (h : FPG mem m p s) (hs : s = b * mem p 7) (he : e = enV mem p b) (hp : 35 ≤ p) (h13 : 35 ≤ mem p 13) (ho : mem p 4 ≤ 4) (hm : MBP m mm p b) : FPG mem mm p e := by
  obtain ⟨h1, h2⟩ := h
  have e2 : m p 2 = mem p 2 := h1 p 2 (by omega) (by omega)
  have e4 : m p 4 = mem p 4 := h1 p 4 (by omega) (by omega)
  have e7 : m p 7 = mem p 7 := h1 p 7 (by omega) (by omega)
  have e13 : m p 13 = mem p 13 := h1 p 13 (by omega) (by omega)
  have en : m (mem p 13) = mem (mem p 13) := by funext j; exact h1 _ j (by omega) (by omega)
  have ea : m 13 = mem 13 := by funext j; exact h1 _ j (by omega) (by omega)
  unfold MBP at hm
  rw [e13, en, ea, e4, e7, enV_cg e2 e7, ← hs, ← he] at hm
  exact ⟨fun a j q1 q2 => (hm.1 a j (by omega) (by omega)).trans (h1 a j q1 q2), h2.join ho hm.1 hm.2⟩
/-- a count of what fails -/
noncomputable def c01 (P : Prop) : Int := @ite Int P (Classical.propDecidable P) 0 1
theorem c01_t {P : Prop} (h : P) : c01 P = 0 := if_pos h
theorem c01_f {P : Prop} (h : ¬ P) : c01 P = 1 := if_neg h
theorem c01_bd (P : Prop) : 0 ≤ c01 P ∧ c01 P ≤ 1 := by
  by_cases h : P
  · rw [c01_t h]; omega
  · rw [c01_f h]; omega
theorem c01_cg {P Q : Prop} (h : P ↔ Q) : c01 P = c01 Q := by rw [propext h]
/-- a line's check, over numbers and first columns -/
def ADU (mem : Int → Int → Int) (nm cl : Int → Int) (p n : Int) : Prop := n % mem p 7 ≤ mem p 4 ∨ wL (nm n) = wL (nm (n - n % mem p 7 + mem p 4) + sumC cl (n - n % mem p 7 + mem p 4 + 1) (n % mem p 7 - mem p 4).toNat)
def hlS (mem : Int → Int → Int) (nm cl : Int → Int) (p n : Int) : Prop :=
  if mem (mem p 11) n = 1 then ADU mem nm cl p n
  else if mem (mem p 11) n = 2 then n % mem p 7 ≤ mem p 4 ∨ wL (difF nm n (mem p 4 + 1) (mem p 4 + 1 + 1).toNat) = wL 0
  else if mem (mem p 11) n = 3 then wL (absV (wL (nm n - mem (mem p 13) n))) ≤ wL (if 0 < mem (mem p 12) n then mem (mem p 12) n else 0)
  else True
def c1F (mem : Int → Int → Int) : Int → Int := fun k => mem 12 (k * 5 + 1)
noncomputable def fcS (mem : Int → Int → Int) (nm cl : Int → Int) (p a : Int) : Nat → Int
  | 0 => 0
  | k + 1 => fcS mem nm cl p a k + c01 (hlS mem nm cl p (a + k))
theorem fcS_bd (mem : Int → Int → Int) (nm cl : Int → Int) (p a : Int) : ∀ k : Nat, 0 ≤ fcS mem nm cl p a k ∧ fcS mem nm cl p a k ≤ k := by
  intro k
  induction k with
  | zero => simp [fcS]
  | succ k ih => have := c01_bd (hlS mem nm cl p (a + k)); unfold fcS; omega
theorem fcS_s {mem : Int → Int → Int} {nm cl : Int → Int} {p a i : Int} (h : a ≤ i) : fcS mem nm cl p a (i + 1 - a).toNat = fcS mem nm cl p a (i - a).toNat + c01 (hlS mem nm cl p i) := by
  rw [show (i + 1 - a).toNat = (i - a).toNat + 1 by omega, fcS, show a + (((i - a).toNat : Nat) : Int) = i by omega]
theorem sumC_s {cl : Int → Int} {a i : Int} (h : a ≤ i) : sumC cl a (i + 1 - a).toNat = sumC cl a (i - a).toNat + cl i := by
  rw [show (i + 1 - a).toNat = (i - a).toNat + 1 by omega, sumC, show a + (((i - a).toNat : Nat) : Int) = i by omega]
/-- a made line's block: where its made lines begin -/
theorem md_made {mem : Int → Int → Int} {p n : Int} (h : PB mem p) (hn : 0 ≤ n ∧ n < mem p 2) (hm : mem p 4 < n % mem p 7) : mdV mem p (n / mem p 7) = n - n % mem p 7 + mem p 4 + 1 := by
  have hd2 := Int.mul_ediv_add_emod n (mem p 7)
  have hq := emod_bd2 n (mem p 7) (by omega)
  rw [Int.mul_comm] at hd2
  unfold mdV enV
  rw [show (n / mem p 7 + 1) * mem p 7 = n / mem p 7 * mem p 7 + mem p 7 by rw [Int.add_mul, Int.one_mul]]
  split <;> split <;> omega
set_option maxHeartbeats 4000000 in
set_option maxRecDepth 100000 in
theorem c_X2_make {l : Launch} {g : GP} (hG : GH g) {kd : Int → Nat} {ln : Int → Int} {mem : Int → Int → Int} {sz : Nat} (hK : HK kd ln) (hR : HR mem) (p : Int) (hkp : kd p = 5) (hp0 : 0 ≤ p) (hPB : PB mem p) (h13 : kd (mem p 13) = 21 ∧ ln (mem p 13) = 40 ∧ 35 ≤ mem p 13) (hp35 : 35 ≤ p) : MT l g yX2_make cX2_make 4 none 3 0 0 [(2, 10), (2, p)] kd ln mem sz (pMV (fun mem' => HR mem' ∧ (FPG mem mem' p (mem p 2))) kd ln sz) := by
  refine MT_of hG (by decide +kernel) (Nat.le_of_ble_eq_true rfl) (fun z hF hr hn => ?_)
  have ⟨b1, b2, b3, b4, b5, b6, b7, b8, b9, b10, b11, b12, b13, b14, b15, b16⟩ := hPB
  have hdb := (ediv_bd (mem p 2 - 1) (mem p 7) (by omega)).1 (by omega)
  refine jblk hF [(.aload_n 1, 1)] (by decide +kernel) (pc' := 1) (lo' := [(0, (2, 10)), (1, (2, p))]) (st' := [(2, p)]) rfl ?_
  refine jcallV hF (c_X3_blocks hG p (by first | assumption | omega) (by omega) (by assumption)) MW_X3_blocks 4 (by decide) (by first | assumption | omega) wd_814 wd_815 wd_816 (by decide +kernel) [] rfl rfl (by decide) (Nat.le_of_ble_eq_true rfl) (by decide) (kV ?_)
  refine jblk hF [(.istore_n 2, 1), (.iconst 0, 1), (.istore_n 3, 1)] (by decide +kernel) (pc' := 7) (lo' := [(3, (0, 0)), (2, (0, (mem p 2 - 1) / mem p 7 + 1)), (0, (2, 10)), (1, (2, p))]) (st' := []) rfl ?_
  have L_2 : ∀ (fu_3 : Nat) (b : Int) (m : Int → Int → Int), (HR m) → (0 ≤ b ∧ b ≤ 40) → (FPG mem m p (edV mem p b)) →  (41 - b).toNat < fu_3 → J z g 4 0 0 (QM z g 0 0 (pMV (fun mem' => HR mem' ∧ (FPG mem mem' p (mem p 2))) kd ln sz)) 7 [(0, (2, 10)), (1, (2, p)), (2, (0, (mem p 2 - 1) / mem p 7 + 1)), (3, (0, b))] [] kd ln m sz := by
    intro fu_3
    induction fu_3 with
    | zero => intro b m _ _ _ hm; omega
    | succ fu_3 ih_1 =>
      intro b m hR_m hb hf hm
      have m1 : m p 1 = mem p 1 := hf.1 p 1 (by omega) (by omega)
      have m2 : m p 2 = mem p 2 := hf.1 p 2 (by omega) (by omega)
      have m3 : m p 3 = mem p 3 := hf.1 p 3 (by omega) (by omega)
      have m4 : m p 4 = mem p 4 := hf.1 p 4 (by omega) (by omega)
      have m5 : m p 5 = mem p 5 := hf.1 p 5 (by omega) (by omega)
      have m6 : m p 6 = mem p 6 := hf.1 p 6 (by omega) (by omega)
      have m7 : m p 7 = mem p 7 := hf.1 p 7 (by omega) (by omega)
      have m8 : m p 8 = mem p 8 := hf.1 p 8 (by omega) (by omega)
      have m13 : m p 13 = mem p 13 := hf.1 p 13 (by omega) (by omega)
      refine jblk hF [(.iload_n 3, 1), (.iload_n 2, 1)] (by decide +kernel) (pc' := 9) (lo' := [(0, (2, 10)), (1, (2, p)), (2, (0, (mem p 2 - 1) / mem p 7 + 1)), (3, (0, b))]) (st' := [(0, (mem p 2 - 1) / mem p 7 + 1), (0, b)]) rfl ?_
      refine jicmp_ge hF (off := 15) 24 (by decide +kernel) (by decide) (by omega) (by omega) (fun h_4 => ?_) (fun h_4 => ?_)
      · refine jvret hF hr (by decide +kernel) ?_
        exact lMV ⟨hR_m, by (rw [← edV_end hPB (b := b) (by omega)]; exact hf)⟩
      · have hbl := (Int.le_ediv_iff_mul_le (a := b) (b := mem p 2 - 1) (c := mem p 7) (by omega)).mp (by omega)
        have hb40 : b ≤ 39 := by
          have := Int.mul_le_mul_of_nonneg_left (show (1 : Int) ≤ mem p 7 by omega) hb.1
          omega
        have hPBm : PB m p := by show 2 ≤ m p 2 ∧ m p 2 ≤ 40 ∧ 1 ≤ m p 1 ∧ m p 1 ≤ 9999 ∧ 1 ≤ m p 3 ∧ m p 3 ≤ 50 ∧ 1 ≤ m p 4 ∧ m p 4 ≤ 4 ∧ 0 ≤ m p 5 ∧ m p 5 ≤ 5 ∧ 0 ≤ m p 6 ∧ m p 5 + m p 6 ≤ 6 ∧ m p 4 + 2 ≤ m p 7 ∧ m p 7 ≤ 40 ∧ 0 ≤ m p 8 ∧ m p 8 ≤ 2; rw [m1, m2, m3, m4, m5, m6, m7, m8]; exact hPB
        have h13m : kd (m p 13) = 21 ∧ ln (m p 13) = 40 ∧ 35 ≤ m p 13 := by rw [m13]; exact h13
        have hbm : 0 ≤ b ∧ b * m p 7 < m p 2 := by rw [m7, m2]; exact ⟨hb.1, by omega⟩
        refine jblk hF [(.aload_n 0, 1), (.aload_n 1, 1), (.iload_n 3, 1)] (by decide +kernel) (pc' := 15) (lo' := [(0, (2, 10)), (1, (2, p)), (2, (0, (mem p 2 - 1) / mem p 7 + 1)), (3, (0, b))]) (st' := [(0, b), (2, p), (2, 10)]) rfl ?_
        refine jcallV hF (c_X2_makeBlock hG hK hR_m p b (by first | assumption | omega) (by omega) (by assumption) (by assumption) (by omega) (by omega)) MW_X2_makeBlock 3 (by decide) (by exact hK.k10) wd_818 wd_820 wd_p22 (by decide +kernel) [] rfl rfl (by decide) (Nat.le_of_ble_eq_true rfl) (by decide) (kMV (fun m_5 h_6 => ?_))
        obtain ⟨hR_m_5, h_6⟩ := h_6
        have hnx : FPG mem m_5 p (edV mem p (b + 1)) := hf.step (b := b) (by unfold edV; rw [if_pos (by omega)]) rfl hp35 h13.2.2 (by omega) h_6
        refine jblk hF [(.iinc 3 1, 3)] (by decide +kernel) (pc' := 21) (lo' := [(3, (0, b + 1)), (0, (2, 10)), (1, (2, p)), (2, (0, (mem p 2 - 1) / mem p 7 + 1))]) (st' := []) rfl ?_
        refine jgoto hF (off := (-14)) 7 (by decide +kernel) (by decide) ?_
        refine jsub [1, 2, 3, 0] rfl ?_
        refine ih_1 (b + 1) m_5 ?_ ?_ ?_ ?_
        · exact hR_m_5
        · exact ⟨by omega, by omega⟩
        · exact hnx
        · omega
  refine jsub [2, 3, 1, 0] rfl ?_
  refine L_2 _ 0 mem ?_ ?_ ?_ (Nat.lt_succ_self _)
  · exact hR
  · omega
  · (rw [show edV mem p 0 = 0 from (by unfold edV; rw [if_pos (by omega)]; omega)]; exact FPG.start mem p)
set_option maxHeartbeats 4000000 in
set_option maxRecDepth 100000 in
theorem c_X2_addsUp {l : Launch} {g : GP} (hG : GH g) {kd : Int → Nat} {ln : Int → Int} {mem : Int → Int → Int} {sz : Nat} (hK : HK kd ln) (hR : HR mem) (p n : Int) (hkp : kd p = 5) (hp0 : 0 ≤ p) (hPB : PB mem p) (hp35 : 35 ≤ p) (hn1 : 0 ≤ n ∧ n < mem p 2) : MT l g yX2_addsUp cX2_addsUp 7 (some .boolean) 3 0 0 [(2, 10), (2, p), (0, n)] kd ln mem sz (pB (ADU mem (mem 11) (c1F mem) p n) kd ln mem sz) := by
  refine MT_of hG (by decide +kernel) (Nat.le_of_ble_eq_true rfl) (fun z hF hr hn => ?_)
  have ⟨b1, b2, b3, b4, b5, b6, b7, b8, b9, b10, b11, b12, b13, b14, b15, b16⟩ := hPB
  have hq := emod_bd2 n (mem p 7) (by omega)
  have hqn := mod_le (n := n) (m := mem p 7) (by omega) (by omega)
  refine jblk hF [(.aload_n 1, 1), (.iload_n 2, 1)] (by decide +kernel) (pc' := 2) (lo' := [(0, (2, 10)), (1, (2, p)), (2, (0, n))]) (st' := [(0, n), (2, p)]) rfl ?_
  refine jcallV hF (c_X3_isMade hG p n (by first | assumption | omega) (by omega) (by assumption) (by omega)) MW_X3_isMade 4 (by decide) (by first | assumption | omega) wd_976 wd_890 wd_891 (by decide +kernel) [] rfl rfl (by decide) (Nat.le_of_ble_eq_true rfl) (by decide) (kB (fun h_1 => ?_) (fun h_1 => ?_))
  · refine jif_ne hF (off := 5) 10 (by decide +kernel) (by decide) (by decide) (fun _ => ?_) (fun h => absurd h (by decide))
    refine jblk hF [(.aload_n 1, 1), (.aload_n 1, 1), (.iload_n 2, 1)] (by decide +kernel) (pc' := 13) (lo' := [(0, (2, 10)), (1, (2, p)), (2, (0, n))]) (st' := [(0, n), (2, p), (2, p)]) rfl ?_
    refine jcallV hF (c_X3_blockOf hG p n (by first | assumption | omega) (by omega) (by omega) (by omega)) MW_X3_blockOf 4 (by decide) (by first | assumption | omega) wd_977 wd_790 wd_791 (by decide +kernel) [(2, p)] rfl rfl (by decide) (Nat.le_of_ble_eq_true rfl) (by decide) (kV ?_)
    have hqd := ediv_bd n (mem p 7) (by omega)
    refine jcallV hF (c_X3_madeFrom hG p (n / mem p 7) (by first | assumption | omega) (by omega) (by assumption) (by omega)) MW_X3_madeFrom 4 (by decide) (by first | assumption | omega) wd_822 wd_823 wd_824 (by decide +kernel) [] rfl rfl (by decide) (Nat.le_of_ble_eq_true rfl) (by decide) (kV ?_)
    rw [md_made hPB hn1 (by omega)]
    refine jblk hF [(.istore_n 3, 1)] (by decide +kernel) (pc' := 20) (lo' := [(3, (0, n - n % mem p 7 + mem p 4 + 1)), (0, (2, 10)), (1, (2, p)), (2, (0, n))]) (st' := []) rfl ?_
    obtain ⟨md, hmd⟩ : ∃ q : Int, q = n - n % mem p 7 + mem p 4 + 1 := ⟨_, rfl⟩
    rw [← hmd]
    refine jblk hF [(.iload_n 3, 1)] (by decide +kernel) (pc' := 21) (lo' := [(3, (0, md)), (0, (2, 10)), (1, (2, p)), (2, (0, n))]) (st' := [(0, md)]) rfl ?_
    refine jif_le hF (off := 14) 35 (by decide +kernel) (by decide) (by omega) (fun h_3 => ?_) (fun h_3 => ?_)
    · refine jlconst hF (n := 0) 0 rfl (by decide +kernel) ?_
      refine jblk hF [(.lstore 4, 2), (.iload_n 3, 1), (.istore 6, 2)] (by decide +kernel) (pc' := 41) (lo' := [(6, (0, md)), (4, (1, 0)), (3, (0, md)), (0, (2, 10)), (1, (2, p)), (2, (0, n))]) (st' := []) rfl ?_
      have L_5 : ∀ (fu_6 : Nat) (s : Int) (i : Int), (md ≤ i ∧ i ≤ n + 1) → (s = mem 11 (md - 1) + sumC (c1F mem) md (i - md).toNat) →  (n + 1 - i).toNat < fu_6 → J z g 7 0 0 (QM z g 0 0 (pB (ADU mem (mem 11) (c1F mem) p n) kd ln mem sz)) 41 [(0, (2, 10)), (1, (2, p)), (2, (0, n)), (3, (0, md)), (4, (1, s)), (6, (0, i))] [] kd ln mem sz := by
        intro fu_6
        induction fu_6 with
        | zero => intro s i _ _ hm; omega
        | succ fu_6 ih_4 =>
          intro s i hi hs hm
          have hmdb : 0 < md ∧ md ≤ n := by omega
          refine jblk hF [(.iload 6, 2), (.iload_n 2, 1)] (by decide +kernel) (pc' := 44) (lo' := [(0, (2, 10)), (1, (2, p)), (2, (0, n)), (3, (0, md)), (4, (1, s)), (6, (0, i))]) (st' := [(0, n), (0, i)]) rfl ?_
          refine jicmp_gt hF (off := 25) 69 (by decide +kernel) (by decide) (by omega) (by omega) (fun h_7 => ?_) (fun h_7 => ?_)
          · have hfin : ADU mem (mem 11) (c1F mem) p n ↔ wL (mem 11 n) = wL s := by
              unfold ADU
              rw [hs, show n - n % mem p 7 + mem p 4 = md - 1 by omega, show md - 1 + 1 = md by omega, show (n % mem p 7 - mem p 4).toNat = (i - md).toNat by omega]
              exact ⟨fun h => h.elim (fun q => by omega) id, Or.inr⟩
            refine jblk hF [(.aload_n 0, 1)] (by decide +kernel) (pc' := 70) (lo' := [(0, (2, 10)), (1, (2, p)), (2, (0, n)), (3, (0, md)), (4, (1, s)), (6, (0, i))]) (st' := [(2, 10)]) rfl ?_
            refine jget hF 3 0 2 0 rfl (by decide) (by decide) rfl wd_198 (by decide +kernel) (by exact hK.k10) ?_
            rw [HR.r10_0 hR]
            refine jblk hF [(.iload_n 2, 1)] (by decide +kernel) (pc' := 74) (lo' := [(0, (2, 10)), (1, (2, p)), (2, (0, n)), (3, (0, md)), (4, (1, s)), (6, (0, i))]) (st' := [(0, n), (2, 11)]) rfl ?_
            refine jlald hF (by decide +kernel) (by exact hK.k11) (by omega) (by have := hK.l11; omega) ?_
            refine jblk hF [(.lload 4, 2)] (by decide +kernel) (pc' := 77) (lo' := [(0, (2, 10)), (1, (2, p)), (2, (0, n)), (3, (0, md)), (4, (1, s)), (6, (0, i))]) (st' := [(1, s), (1, mem 11 n)]) rfl ?_
            refine jlcmpW_ne hF (off := 7) 85 (by decide +kernel) (by decide +kernel) (by decide) (fun h_8 => ?_) (fun h_8 => ?_)
            · refine jblk hF [(.iconst 0, 1)] (by decide +kernel) (pc' := 86) (lo' := [(0, (2, 10)), (1, (2, p)), (2, (0, n)), (3, (0, md)), (4, (1, s)), (6, (0, i))]) (st' := [(0, 0)]) rfl ?_
              refine jzret hF hr (by omega) (by decide +kernel) ?_
              exact lB0 (by first | exact hfin.mpr (by assumption) | exact fun q => absurd (hfin.mp q) (by assumption))
            · refine jblk hF [(.iconst 1, 1)] (by decide +kernel) (pc' := 82) (lo' := [(0, (2, 10)), (1, (2, p)), (2, (0, n)), (3, (0, md)), (4, (1, s)), (6, (0, i))]) (st' := [(0, 1)]) rfl ?_
              refine jgoto hF (off := 4) 86 (by decide +kernel) (by decide) ?_
              refine jzret hF hr (by omega) (by decide +kernel) ?_
              exact lB1 (by first | exact hfin.mpr (by assumption) | exact fun q => absurd (hfin.mp q) (by assumption))
          · refine jblk hF [(.lload 4, 2), (.aload_n 0, 1)] (by decide +kernel) (pc' := 50) (lo' := [(0, (2, 10)), (1, (2, p)), (2, (0, n)), (3, (0, md)), (4, (1, s)), (6, (0, i))]) (st' := [(2, 10), (1, s)]) rfl ?_
            refine jget hF 3 1 2 1 rfl (by decide) (by decide) rfl wd_200 (by decide +kernel) (by exact hK.k10) ?_
            rw [HR.r10_1 hR]
            refine jblk hF [(.iload 6, 2), (.iconst 5, 1), (.imul, 1), (.iconst 1, 1), (.iadd, 1)] (by decide +kernel) (pc' := 59) (lo' := [(0, (2, 10)), (1, (2, p)), (2, (0, n)), (3, (0, md)), (4, (1, s)), (6, (0, i))]) (st' := [(0, (i * 5) + 1), (2, 12), (1, s)]) rfl ?_
            refine jlald hF (by decide +kernel) (by exact hK.k12) (by omega) (by have := hK.l12; omega) ?_
            refine jblk hF [(.ladd, 1), (.lstore 4, 2), (.iinc 6 1, 3)] (by decide +kernel) (pc' := 66) (lo' := [(6, (0, i + 1)), (4, (1, s + (mem 12 ((i * 5) + 1)))), (0, (2, 10)), (1, (2, p)), (2, (0, n)), (3, (0, md))]) (st' := []) rfl ?_
            refine jgoto hF (off := (-25)) 41 (by decide +kernel) (by decide) ?_
            refine jsub [2, 3, 4, 5, 1, 0] rfl ?_
            refine ih_4 (s + (mem 12 ((i * 5) + 1))) (i + 1) ?_ ?_ ?_
            · omega
            · (rw [sumC_s hi.1, ← Int.add_assoc, ← hs]; rfl)
            · omega
      refine jsub [3, 4, 5, 2, 1, 0] rfl ?_
      refine L_5 _ 0 md ?_ ?_ (Nat.lt_succ_self _)
      · omega
      · (rw [Int.sub_self]; show _ = _ + 0; omega)
    · refine jblk hF [(.aload_n 0, 1)] (by decide +kernel) (pc' := 25) (lo' := [(3, (0, md)), (0, (2, 10)), (1, (2, p)), (2, (0, n))]) (st' := [(2, 10)]) rfl ?_
      refine jget hF 3 0 2 0 rfl (by decide) (by decide) rfl wd_198 (by decide +kernel) (by exact hK.k10) ?_
      rw [HR.r10_0 hR]
      refine jblk hF [(.iload_n 3, 1), (.iconst 1, 1), (.isub, 1)] (by decide +kernel) (pc' := 31) (lo' := [(3, (0, md)), (0, (2, 10)), (1, (2, p)), (2, (0, n))]) (st' := [(0, md - 1), (2, 11)]) rfl ?_
      refine jlald hF (by decide +kernel) (by exact hK.k11) (by omega) (by have := hK.l11; omega) ?_
      refine jgoto hF (off := 4) 36 (by decide +kernel) (by decide) ?_
      refine jblk hF [(.lstore 4, 2), (.iload_n 3, 1), (.istore 6, 2)] (by decide +kernel) (pc' := 41) (lo' := [(6, (0, md)), (4, (1, mem 11 (md - 1))), (3, (0, md)), (0, (2, 10)), (1, (2, p)), (2, (0, n))]) (st' := []) rfl ?_
      have L_10 : ∀ (fu_11 : Nat) (s : Int) (i : Int), (md ≤ i ∧ i ≤ n + 1) → (s = mem 11 (md - 1) + sumC (c1F mem) md (i - md).toNat) →  (n + 1 - i).toNat < fu_11 → J z g 7 0 0 (QM z g 0 0 (pB (ADU mem (mem 11) (c1F mem) p n) kd ln mem sz)) 41 [(0, (2, 10)), (1, (2, p)), (2, (0, n)), (3, (0, md)), (4, (1, s)), (6, (0, i))] [] kd ln mem sz := by
        intro fu_11
        induction fu_11 with
        | zero => intro s i _ _ hm; omega
        | succ fu_11 ih_9 =>
          intro s i hi hs hm
          have hmdb : 0 < md ∧ md ≤ n := by omega
          refine jblk hF [(.iload 6, 2), (.iload_n 2, 1)] (by decide +kernel) (pc' := 44) (lo' := [(0, (2, 10)), (1, (2, p)), (2, (0, n)), (3, (0, md)), (4, (1, s)), (6, (0, i))]) (st' := [(0, n), (0, i)]) rfl ?_
          refine jicmp_gt hF (off := 25) 69 (by decide +kernel) (by decide) (by omega) (by omega) (fun h_12 => ?_) (fun h_12 => ?_)
          · have hfin : ADU mem (mem 11) (c1F mem) p n ↔ wL (mem 11 n) = wL s := by
              unfold ADU
              rw [hs, show n - n % mem p 7 + mem p 4 = md - 1 by omega, show md - 1 + 1 = md by omega, show (n % mem p 7 - mem p 4).toNat = (i - md).toNat by omega]
              exact ⟨fun h => h.elim (fun q => by omega) id, Or.inr⟩
            refine jblk hF [(.aload_n 0, 1)] (by decide +kernel) (pc' := 70) (lo' := [(0, (2, 10)), (1, (2, p)), (2, (0, n)), (3, (0, md)), (4, (1, s)), (6, (0, i))]) (st' := [(2, 10)]) rfl ?_
            refine jget hF 3 0 2 0 rfl (by decide) (by decide) rfl wd_198 (by decide +kernel) (by exact hK.k10) ?_
            rw [HR.r10_0 hR]
            refine jblk hF [(.iload_n 2, 1)] (by decide +kernel) (pc' := 74) (lo' := [(0, (2, 10)), (1, (2, p)), (2, (0, n)), (3, (0, md)), (4, (1, s)), (6, (0, i))]) (st' := [(0, n), (2, 11)]) rfl ?_
            refine jlald hF (by decide +kernel) (by exact hK.k11) (by omega) (by have := hK.l11; omega) ?_
            refine jblk hF [(.lload 4, 2)] (by decide +kernel) (pc' := 77) (lo' := [(0, (2, 10)), (1, (2, p)), (2, (0, n)), (3, (0, md)), (4, (1, s)), (6, (0, i))]) (st' := [(1, s), (1, mem 11 n)]) rfl ?_
            refine jlcmpW_ne hF (off := 7) 85 (by decide +kernel) (by decide +kernel) (by decide) (fun h_13 => ?_) (fun h_13 => ?_)
            · refine jblk hF [(.iconst 0, 1)] (by decide +kernel) (pc' := 86) (lo' := [(0, (2, 10)), (1, (2, p)), (2, (0, n)), (3, (0, md)), (4, (1, s)), (6, (0, i))]) (st' := [(0, 0)]) rfl ?_
              refine jzret hF hr (by omega) (by decide +kernel) ?_
              exact lB0 (by first | exact hfin.mpr (by assumption) | exact fun q => absurd (hfin.mp q) (by assumption))
            · refine jblk hF [(.iconst 1, 1)] (by decide +kernel) (pc' := 82) (lo' := [(0, (2, 10)), (1, (2, p)), (2, (0, n)), (3, (0, md)), (4, (1, s)), (6, (0, i))]) (st' := [(0, 1)]) rfl ?_
              refine jgoto hF (off := 4) 86 (by decide +kernel) (by decide) ?_
              refine jzret hF hr (by omega) (by decide +kernel) ?_
              exact lB1 (by first | exact hfin.mpr (by assumption) | exact fun q => absurd (hfin.mp q) (by assumption))
          · refine jblk hF [(.lload 4, 2), (.aload_n 0, 1)] (by decide +kernel) (pc' := 50) (lo' := [(0, (2, 10)), (1, (2, p)), (2, (0, n)), (3, (0, md)), (4, (1, s)), (6, (0, i))]) (st' := [(2, 10), (1, s)]) rfl ?_
            refine jget hF 3 1 2 1 rfl (by decide) (by decide) rfl wd_200 (by decide +kernel) (by exact hK.k10) ?_
            rw [HR.r10_1 hR]
            refine jblk hF [(.iload 6, 2), (.iconst 5, 1), (.imul, 1), (.iconst 1, 1), (.iadd, 1)] (by decide +kernel) (pc' := 59) (lo' := [(0, (2, 10)), (1, (2, p)), (2, (0, n)), (3, (0, md)), (4, (1, s)), (6, (0, i))]) (st' := [(0, (i * 5) + 1), (2, 12), (1, s)]) rfl ?_
            refine jlald hF (by decide +kernel) (by exact hK.k12) (by omega) (by have := hK.l12; omega) ?_
            refine jblk hF [(.ladd, 1), (.lstore 4, 2), (.iinc 6 1, 3)] (by decide +kernel) (pc' := 66) (lo' := [(6, (0, i + 1)), (4, (1, s + (mem 12 ((i * 5) + 1)))), (0, (2, 10)), (1, (2, p)), (2, (0, n)), (3, (0, md))]) (st' := []) rfl ?_
            refine jgoto hF (off := (-25)) 41 (by decide +kernel) (by decide) ?_
            refine jsub [2, 3, 4, 5, 1, 0] rfl ?_
            refine ih_9 (s + (mem 12 ((i * 5) + 1))) (i + 1) ?_ ?_ ?_
            · omega
            · (rw [sumC_s hi.1, ← Int.add_assoc, ← hs]; rfl)
            · omega
      refine jsub [3, 4, 5, 2, 1, 0] rfl ?_
      refine L_10 _ (mem 11 (md - 1)) md ?_ ?_ (Nat.lt_succ_self _)
      · omega
      · (rw [Int.sub_self]; show _ = _ + 0; omega)
  · refine jif_ne hF (off := 5) 10 (by decide +kernel) (by decide) (by decide) (fun h => absurd h (by decide)) (fun _ => ?_)
    refine jblk hF [(.iconst 1, 1)] (by decide +kernel) (pc' := 9) (lo' := [(0, (2, 10)), (1, (2, p)), (2, (0, n))]) (st' := [(0, 1)]) rfl ?_
    refine jzret hF hr (by omega) (by decide +kernel) ?_
    exact lB1 (by exact Or.inl (by omega))
set_option maxHeartbeats 4000000 in
set_option maxRecDepth 100000 in
theorem c_X2_holds {l : Launch} {g : GP} (hG : GH g) {kd : Int → Nat} {ln : Int → Int} {mem : Int → Int → Int} {sz : Nat} (hK : HK kd ln) (hR : HR mem) (p n : Int) (hkp : kd p = 5) (hp0 : 0 ≤ p) (hPB : PB mem p) (hp35 : 35 ≤ p) (hn1 : 0 ≤ n ∧ n < mem p 2) (h11 : kd (mem p 11) = 20 ∧ ln (mem p 11) = 40) (h12 : kd (mem p 12) = 20 ∧ ln (mem p 12) = 40) (h13 : kd (mem p 13) = 21 ∧ ln (mem p 13) = 40) (hci : ∀ i : Int, 0 ≤ i → i < mem p 2 → InI (mem (mem p 11) i) ∧ InI (mem (mem p 12) i)) : MT l g yX2_holds cX2_holds 3 (some .boolean) 4 0 0 [(2, 10), (2, p), (0, n)] kd ln mem sz (pB (hlS mem (mem 11) (c1F mem) p n) kd ln mem sz) := by
  refine MT_of hG (by decide +kernel) (Nat.le_of_ble_eq_true rfl) (fun z hF hr hn => ?_)
  have ⟨b1, b2, b3, b4, b5, b6, b7, b8, b9, b10, b11, b12, b13, b14, b15, b16⟩ := hPB
  have hq := emod_bd2 n (mem p 7) (by omega)
  have hqn := mod_le (n := n) (m := mem p 7) (by omega) (by omega)
  have hcn := hci n (by omega) (by omega)
  have hk11 := h11.1
  have hk12 := h12.1
  have hk13 := h13.1
  have hl11 := h11.2
  have hl12 := h12.2
  have hl13 := h13.2
  refine jblk hF [(.aload_n 1, 1)] (by decide +kernel) (pc' := 1) (lo' := [(0, (2, 10)), (1, (2, p)), (2, (0, n))]) (st' := [(2, p)]) rfl ?_
  refine jget hF 4 11 2 11 rfl (by decide) (by decide) rfl wd_715 (by decide +kernel) (by first | assumption | omega) ?_
  refine jblk hF [(.iload_n 2, 1)] (by decide +kernel) (pc' := 5) (lo' := [(0, (2, 10)), (1, (2, p)), (2, (0, n))]) (st' := [(0, n), (2, mem p 11)]) rfl ?_
  refine jiald hF (by decide +kernel) (by first | assumption | omega) (by omega) (by omega) ?_
  by_cases h_1 : mem (mem p 11) n = 1
  · refine jtabIn hF (dflt := 100) (lo' := 1) (hi := 3) (offs := #[26, 33, 63]) (len := 26) 1 26 32 (by decide +kernel) h_1 (by decide) (by decide) (by decide) rfl (by decide) ?_
    refine jblk hF [(.aload_n 0, 1), (.aload_n 1, 1), (.iload_n 2, 1)] (by decide +kernel) (pc' := 35) (lo' := [(0, (2, 10)), (1, (2, p)), (2, (0, n))]) (st' := [(0, n), (2, p), (2, 10)]) rfl ?_
    refine jcallV hF (c_X2_addsUp hG hK hR p n (by first | assumption | omega) (by omega) (by assumption) (by omega) (by omega)) MW_X2_addsUp 3 (by decide) (by exact hK.k10) wd_972 wd_974 wd_p29 (by decide +kernel) [] rfl rfl (by decide) (Nat.le_of_ble_eq_true rfl) (by decide) (kB (fun h_2 => ?_) (fun h_2 => ?_))
    · refine jzret hF hr (by omega) (by decide +kernel) ?_
      exact lB1 (by (unfold hlS; rw [if_pos (by omega)]; assumption))
    · refine jzret hF hr (by omega) (by decide +kernel) ?_
      exact lB0 (by (unfold hlS; rw [if_pos (by omega)]; assumption))
  by_cases h_3 : mem (mem p 11) n = 2
  · refine jtabIn hF (dflt := 100) (lo' := 1) (hi := 3) (offs := #[26, 33, 63]) (len := 26) 2 33 39 (by decide +kernel) h_3 (by decide) (by decide) (by decide) rfl (by decide) ?_
    refine jblk hF [(.aload_n 1, 1), (.iload_n 2, 1)] (by decide +kernel) (pc' := 41) (lo' := [(0, (2, 10)), (1, (2, p)), (2, (0, n))]) (st' := [(0, n), (2, p)]) rfl ?_
    refine jcallV hF (c_X3_isMade hG p n (by first | assumption | omega) (by omega) (by assumption) (by omega)) MW_X3_isMade 4 (by decide) (by first | assumption | omega) wd_976 wd_890 wd_891 (by decide +kernel) [] rfl rfl (by decide) (Nat.le_of_ble_eq_true rfl) (by decide) (kB (fun h_4 => ?_) (fun h_4 => ?_))
    · refine jif_eq hF (off := 19) 63 (by decide +kernel) (by decide) (by decide) (fun h => absurd h (by decide)) (fun _ => ?_)
      refine jblk hF [(.aload_n 0, 1), (.iload_n 2, 1), (.aload_n 1, 1)] (by decide +kernel) (pc' := 50) (lo' := [(0, (2, 10)), (1, (2, p)), (2, (0, n))]) (st' := [(2, p), (0, n), (2, 10)]) rfl ?_
      refine jget hF 4 4 0 4 rfl (by decide) (by decide) rfl wd_701 (by decide +kernel) (by first | assumption | omega) ?_
      refine jblk hF [(.iconst 1, 1), (.iadd, 1)] (by decide +kernel) (pc' := 55) (lo' := [(0, (2, 10)), (1, (2, p)), (2, (0, n))]) (st' := [(0, (mem p 4) + 1), (0, n), (2, 10)]) rfl ?_
      refine jcallV hF (c_X2_difference hG hK hR n ((mem p 4) + 1) (by omega)) MW_X2_difference 3 (by decide) (by exact hK.k10) wd_837 wd_838 wd_839 (by decide +kernel) [] rfl rfl (by decide) (Nat.le_of_ble_eq_true rfl) (by decide) (kV ?_)
      refine jlconst hF (n := 0) 0 rfl (by decide +kernel) ?_
      refine jlcmpW_ne hF (off := 7) 67 (by decide +kernel) (by decide +kernel) (by decide) (fun h_6 => ?_) (fun h_6 => ?_)
      · refine jblk hF [(.iconst 0, 1)] (by decide +kernel) (pc' := 68) (lo' := [(0, (2, 10)), (1, (2, p)), (2, (0, n))]) (st' := [(0, 0)]) rfl ?_
        refine jzret hF hr (by omega) (by decide +kernel) ?_
        exact lB0 (by first | (unfold hlS; rw [if_neg (by omega), if_pos (by omega)]; first | exact Or.inl (by omega) | exact Or.inr (by assumption) | exact (fun q => q.elim (by omega) (by assumption))))
      · refine jblk hF [(.iconst 1, 1)] (by decide +kernel) (pc' := 64) (lo' := [(0, (2, 10)), (1, (2, p)), (2, (0, n))]) (st' := [(0, 1)]) rfl ?_
        refine jgoto hF (off := 4) 68 (by decide +kernel) (by decide) ?_
        refine jzret hF hr (by omega) (by decide +kernel) ?_
        exact lB1 (by first | (unfold hlS; rw [if_neg (by omega), if_pos (by omega)]; first | exact Or.inl (by omega) | exact Or.inr (by assumption) | exact (fun q => q.elim (by omega) (by assumption))))
    · refine jif_eq hF (off := 19) 63 (by decide +kernel) (by decide) (by decide) (fun _ => ?_) (fun h => absurd h (by decide))
      refine jblk hF [(.iconst 1, 1)] (by decide +kernel) (pc' := 64) (lo' := [(0, (2, 10)), (1, (2, p)), (2, (0, n))]) (st' := [(0, 1)]) rfl ?_
      refine jgoto hF (off := 4) 68 (by decide +kernel) (by decide) ?_
      refine jzret hF hr (by omega) (by decide +kernel) ?_
      exact lB1 (by first | (unfold hlS; rw [if_neg (by omega), if_pos (by omega)]; first | exact Or.inl (by omega) | exact Or.inr (by assumption) | exact (fun q => q.elim (by omega) (by assumption))))
  by_cases h_8 : mem (mem p 11) n = 3
  · refine jtabIn hF (dflt := 100) (lo' := 1) (hi := 3) (offs := #[26, 33, 63]) (len := 26) 3 63 69 (by decide +kernel) h_8 (by decide) (by decide) (by decide) rfl (by decide) ?_
    refine jblk hF [(.aload_n 0, 1)] (by decide +kernel) (pc' := 70) (lo' := [(0, (2, 10)), (1, (2, p)), (2, (0, n))]) (st' := [(2, 10)]) rfl ?_
    refine jget hF 3 0 2 0 rfl (by decide) (by decide) rfl wd_198 (by decide +kernel) (by exact hK.k10) ?_
    rw [HR.r10_0 hR]
    refine jblk hF [(.iload_n 2, 1)] (by decide +kernel) (pc' := 74) (lo' := [(0, (2, 10)), (1, (2, p)), (2, (0, n))]) (st' := [(0, n), (2, 11)]) rfl ?_
    refine jlald hF (by decide +kernel) (by exact hK.k11) (by omega) (by have := hK.l11; omega) ?_
    refine jblk hF [(.aload_n 1, 1)] (by decide +kernel) (pc' := 76) (lo' := [(0, (2, 10)), (1, (2, p)), (2, (0, n))]) (st' := [(2, p), (1, mem 11 n)]) rfl ?_
    refine jget hF 4 13 2 13 rfl (by decide) (by decide) rfl wd_719 (by decide +kernel) (by first | assumption | omega) ?_
    refine jblk hF [(.iload_n 2, 1)] (by decide +kernel) (pc' := 80) (lo' := [(0, (2, 10)), (1, (2, p)), (2, (0, n))]) (st' := [(0, n), (2, mem p 13), (1, mem 11 n)]) rfl ?_
    refine jlald hF (by decide +kernel) (by first | assumption | omega) (by omega) (by omega) ?_
    refine jblk hF [(.lsub, 1)] (by decide +kernel) (pc' := 82) (lo' := [(0, (2, 10)), (1, (2, p)), (2, (0, n))]) (st' := [(1, (mem 11 n) - (mem (mem p 13) n))]) rfl ?_
    have hwi := wL_in (mem 11 n - mem (mem p 13) n)
    refine jwL0 ?_
    refine jcallS hF (c_absW hG (wL ((mem 11 n) - (mem (mem p 13) n))) (by first | exact wL_in _ | omega)) MW_J9_abs_067f4 wd_978 wd_979 (by decide +kernel) [] rfl rfl (by decide) (Nat.le_of_ble_eq_true rfl) (by decide) (kV ?_)
    have hf_9 := absV_bd ((wL ((mem 11 n) - (mem (mem p 13) n))))
    refine jblk hF [(.iconst 0, 1), (.aload_n 1, 1)] (by decide +kernel) (pc' := 87) (lo' := [(0, (2, 10)), (1, (2, p)), (2, (0, n))]) (st' := [(2, p), (0, 0), (1, absV (wL ((mem 11 n) - (mem (mem p 13) n))))]) rfl ?_
    refine jget hF 4 12 2 12 rfl (by decide) (by decide) rfl wd_717 (by decide +kernel) (by first | assumption | omega) ?_
    refine jblk hF [(.iload_n 2, 1)] (by decide +kernel) (pc' := 91) (lo' := [(0, (2, 10)), (1, (2, p)), (2, (0, n))]) (st' := [(0, n), (2, mem p 12), (0, 0), (1, absV (wL ((mem 11 n) - (mem (mem p 13) n))))]) rfl ?_
    refine jiald hF (by decide +kernel) (by first | assumption | omega) (by omega) (by omega) ?_
    refine jcallS hF (c_J9_max_7cf53 hG 0 (mem (mem p 12) n) (by decide) (by omega)) MW_J9_max_7cf53 wd_981 wd_145 (by decide +kernel) [(1, absV (wL ((mem 11 n) - (mem (mem p 13) n))))] rfl rfl (by decide) (Nat.le_of_ble_eq_true rfl) (by decide) (kV ?_)
    refine ji2l hF (by decide +kernel) (by omega) ?_
    refine jlcmpW_gt hF (off := 7) 104 (by decide +kernel) (by decide +kernel) (by decide) (fun h_10 => ?_) (fun h_10 => ?_)
    · refine jblk hF [(.iconst 0, 1)] (by decide +kernel) (pc' := 105) (lo' := [(0, (2, 10)), (1, (2, p)), (2, (0, n))]) (st' := [(0, 0)]) rfl ?_
      refine jzret hF hr (by omega) (by decide +kernel) ?_
      exact lB0 (by (unfold hlS; rw [if_neg (by omega), if_neg (by omega), if_pos (by omega)]; omega))
    · refine jblk hF [(.iconst 1, 1)] (by decide +kernel) (pc' := 101) (lo' := [(0, (2, 10)), (1, (2, p)), (2, (0, n))]) (st' := [(0, 1)]) rfl ?_
      refine jgoto hF (off := 4) 105 (by decide +kernel) (by decide) ?_
      refine jzret hF hr (by omega) (by decide +kernel) ?_
      exact lB1 (by (unfold hlS; rw [if_neg (by omega), if_neg (by omega), if_pos (by omega)]; omega))
  refine jtabOut hF (dflt := 100) (lo' := 1) (hi := 3) (offs := #[26, 33, 63]) (len := 26) 106 (by decide +kernel) (by omega) (by omega) (by decide) ?_
  refine jblk hF [(.iconst 1, 1)] (by decide +kernel) (pc' := 107) (lo' := [(0, (2, 10)), (1, (2, p)), (2, (0, n))]) (st' := [(0, 1)]) rfl ?_
  refine jzret hF hr (by omega) (by decide +kernel) ?_
  exact lB1 (by (unfold hlS; rw [if_neg (by omega), if_neg (by omega), if_neg (by omega)]; trivial))
set_option maxHeartbeats 4000000 in
set_option maxRecDepth 100000 in
theorem c_X2_failsFrom {l : Launch} {g : GP} (hG : GH g) {kd : Int → Nat} {ln : Int → Int} {mem : Int → Int → Int} {sz : Nat} (hK : HK kd ln) (hR : HR mem) (p a e : Int) (hkp : kd p = 5) (hp0 : 0 ≤ p) (hPB : PB mem p) (hp35 : 35 ≤ p) (hae : 0 ≤ a ∧ a ≤ e ∧ e ≤ mem p 2) (h11 : kd (mem p 11) = 20 ∧ ln (mem p 11) = 40) (h12 : kd (mem p 12) = 20 ∧ ln (mem p 12) = 40) (h13 : kd (mem p 13) = 21 ∧ ln (mem p 13) = 40) (hci : ∀ i : Int, 0 ≤ i → i < mem p 2 → InI (mem (mem p 11) i) ∧ InI (mem (mem p 12) i)) : MT l g yX2_failsFrom cX2_failsFrom 6 (some .int) 5 0 0 [(2, 10), (2, p), (0, a), (0, e)] kd ln mem sz (pV (0, fcS mem (mem 11) (c1F mem) p a (e - a).toNat) kd ln mem sz) := by
  refine MT_of hG (by decide +kernel) (Nat.le_of_ble_eq_true rfl) (fun z hF hr hn => ?_)
  have ⟨b1, b2, b3, b4, b5, b6, b7, b8, b9, b10, b11, b12, b13, b14, b15, b16⟩ := hPB
  refine jblk hF [(.iconst 0, 1), (.istore 4, 2), (.iload_n 2, 1), (.istore 5, 2)] (by decide +kernel) (pc' := 6) (lo' := [(5, (0, a)), (4, (0, 0)), (0, (2, 10)), (1, (2, p)), (2, (0, a)), (3, (0, e))]) (st' := []) rfl ?_
  have L_2 : ∀ (fu_3 : Nat) (c : Int) (i : Int), (a ≤ i ∧ i ≤ e) → (c = fcS mem (mem 11) (c1F mem) p a (i - a).toNat) →  (e - i).toNat < fu_3 → J z g 6 0 0 (QM z g 0 0 (pV (0, fcS mem (mem 11) (c1F mem) p a (e - a).toNat) kd ln mem sz)) 6 [(0, (2, 10)), (1, (2, p)), (2, (0, a)), (3, (0, e)), (4, (0, c)), (5, (0, i))] [] kd ln mem sz := by
    intro fu_3
    induction fu_3 with
    | zero => intro c i _ _ hm; omega
    | succ fu_3 ih_1 =>
      intro c i hi hc hm
      have hcb := fcS_bd mem (mem 11) (c1F mem) p a (i - a).toNat
      refine jblk hF [(.iload 5, 2), (.iload_n 3, 1)] (by decide +kernel) (pc' := 9) (lo' := [(0, (2, 10)), (1, (2, p)), (2, (0, a)), (3, (0, e)), (4, (0, c)), (5, (0, i))]) (st' := [(0, e), (0, i)]) rfl ?_
      refine jicmp_ge hF (off := 22) 31 (by decide +kernel) (by decide) (by omega) (by omega) (fun h_4 => ?_) (fun h_4 => ?_)
      · refine jblk hF [(.iload 4, 2)] (by decide +kernel) (pc' := 33) (lo' := [(0, (2, 10)), (1, (2, p)), (2, (0, a)), (3, (0, e)), (4, (0, c)), (5, (0, i))]) (st' := [(0, c)]) rfl ?_
        refine jiret hF hr (by decide +kernel) ?_
        exact lV (by (rw [hc, show i = e by omega]))
      · refine jblk hF [(.aload_n 0, 1), (.aload_n 1, 1), (.iload 5, 2)] (by decide +kernel) (pc' := 16) (lo' := [(0, (2, 10)), (1, (2, p)), (2, (0, a)), (3, (0, e)), (4, (0, c)), (5, (0, i))]) (st' := [(0, i), (2, p), (2, 10)]) rfl ?_
        refine jcallV hF (c_X2_holds hG hK hR p i (by first | assumption | omega) (by omega) (by assumption) (by omega) (by omega) (by assumption) (by assumption) (by assumption) (by assumption)) MW_X2_holds 3 (by decide) (by exact hK.k10) wd_968 wd_969 wd_970 (by decide +kernel) [] rfl rfl (by decide) (Nat.le_of_ble_eq_true rfl) (by decide) (kB (fun h_5 => ?_) (fun h_5 => ?_))
        · refine jif_ne hF (off := 6) 25 (by decide +kernel) (by decide) (by decide) (fun _ => ?_) (fun h => absurd h (by decide))
          refine jblk hF [(.iinc 5 1, 3)] (by decide +kernel) (pc' := 28) (lo' := [(5, (0, i + 1)), (0, (2, 10)), (1, (2, p)), (2, (0, a)), (3, (0, e)), (4, (0, c))]) (st' := []) rfl ?_
          refine jgoto hF (off := (-22)) 6 (by decide +kernel) (by decide) ?_
          refine jsub [1, 2, 3, 4, 5, 0] rfl ?_
          refine ih_1 c (i + 1) ?_ ?_ ?_
          · omega
          · first | (rw [fcS_s hi.1, c01_t (by assumption), hc]; omega) | (rw [fcS_s hi.1, c01_f (by assumption), hc])
          · omega
        · refine jif_ne hF (off := 6) 25 (by decide +kernel) (by decide) (by decide) (fun h => absurd h (by decide)) (fun _ => ?_)
          refine jblk hF [(.iinc 4 1, 3), (.iinc 5 1, 3)] (by decide +kernel) (pc' := 28) (lo' := [(5, (0, i + 1)), (4, (0, c + 1)), (0, (2, 10)), (1, (2, p)), (2, (0, a)), (3, (0, e))]) (st' := []) rfl ?_
          refine jgoto hF (off := (-22)) 6 (by decide +kernel) (by decide) ?_
          refine jsub [2, 3, 4, 5, 1, 0] rfl ?_
          refine ih_1 (c + 1) (i + 1) ?_ ?_ ?_
          · omega
          · first | (rw [fcS_s hi.1, c01_t (by assumption), hc]; omega) | (rw [fcS_s hi.1, c01_f (by assumption), hc])
          · omega
  refine jsub [2, 3, 4, 5, 1, 0] rfl ?_
  refine L_2 _ 0 a ?_ ?_ (Nat.lt_succ_self _)
  · omega
  · (rw [Int.sub_self]; rfl)
end
