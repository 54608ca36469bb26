section
abbrev BS : Type := Int × Int × Int × Int
def mdN (o m : Int) : Nat → Int
  | 0 => 0
  | n + 1 => mdN o m n + (if (n : Int) % m > o then 1 else 0)
theorem mdN_s {o m n : Int} (q : 0 ≤ n) : mdN o m (n + 1).toNat = mdN o m n.toNat + (if n % m > o then 1 else 0) := by
  rw [show (n + 1).toNat = n.toNat + 1 by omega, mdN, show ((n.toNat : Nat) : Int) = n by omega]
theorem mdN_bd (o m : Int) : ∀ k : Nat, 0 ≤ mdN o m k ∧ mdN o m k ≤ k := by
  intro k
  induction k with
  | zero => simp [mdN]
  | succ k ih => unfold mdN; split <;> omega
def costV (mem : Int → Int → Int) (many o e m : Int) : Int := mem 35 89 * (many - mdN o m many.toNat) + o * mdN o m many.toNat + e * many
def bsS (mem : Int → Int → Int) (f first many st p h o e m : Int) (S : BS) : BS := if S.1 ≠ -1 ∧ S.1 ≤ costV mem many o e m then S else if rtN mem f first st o p e m h many.toNat = 1 then (costV mem many o e m, o, e, m) else S
def bsM (mem : Int → Int → Int) (f first many st p h o e : Int) : Nat → BS → BS
  | 0, S => S
  | k + 1, S => bsS mem f first many st p h o e (o + 2 + k) (bsM mem f first many st p h o e k S)
def bsC (mem : Int → Int → Int) (f first many st p h o : Int) : Nat → BS → BS
  | 0, S => S
  | e + 1, S => bsM mem f first many st p h o e (39 - o).toNat (bsC mem f first many st p h o e S)
def bsO (mem : Int → Int → Int) (f first many st p h : Int) : Nat → BS → BS
  | 0, S => S
  | o + 1, S => bsC mem f first many st p h (o + 1) (7 - p).toNat (bsO mem f first many st p h o S)
theorem bsM_s {mem : Int → Int → Int} {f first many st p h o e m : Int} (q : o + 2 ≤ m) (S : BS) : bsM mem f first many st p h o e (m + 1 - (o + 2)).toNat S = bsS mem f first many st p h o e m (bsM mem f first many st p h o e (m - (o + 2)).toNat S) := by
  rw [show (m + 1 - (o + 2)).toNat = (m - (o + 2)).toNat + 1 by omega, bsM, show o + 2 + (((m - (o + 2)).toNat : Nat) : Int) = m by omega]
theorem bsC_s {mem : Int → Int → Int} {f first many st p h o e : Int} (q : 0 ≤ e) (S : BS) : bsC mem f first many st p h o (e + 1).toNat S = bsM mem f first many st p h o e (39 - o).toNat (bsC mem f first many st p h o e.toNat S) := by
  rw [show (e + 1).toNat = e.toNat + 1 by omega, bsC, show ((e.toNat : Nat) : Int) = e by omega]
theorem bsO_s {mem : Int → Int → Int} {f first many st p h o : Int} (q : 1 ≤ o) (S : BS) : bsO mem f first many st p h (o + 1 - 1).toNat S = bsC mem f first many st p h o (7 - p).toNat (bsO mem f first many st p h (o - 1).toNat S) := by
  rw [show (o + 1 - 1).toNat = (o - 1).toNat + 1 by omega, bsO, show (((o - 1).toNat : Nat) : Int) + 1 = o by omega]
abbrev bestC (mem : Int → Int → Int) (f first many st p h w : Int) : Prop := (0 ≤ f ∧ f ≤ mem 35 6 - 1) ∧ (1 ≤ first ∧ first ≤ 9999) ∧ (2 ≤ many ∧ many ≤ 40) ∧ (1 ≤ st ∧ st ≤ 50) ∧ (0 ≤ p ∧ p ≤ 5) ∧ (0 ≤ h ∧ h ≤ 2) ∧ (0 ≤ w ∧ w ≤ 3) ∧ first + (many - 1) * st ≤ 9999
def bestV (mem : Int → Int → Int) (f first many st p h w : Int) : Int := if (bsO mem f first many st p h 4 (-1, 0, 0, 0)).1 = -1 then -1 else if w = 0 then (bsO mem f first many st p h 4 (-1, 0, 0, 0)).1 else if w = 1 then (bsO mem f first many st p h 4 (-1, 0, 0, 0)).2.1 else if w = 2 then (bsO mem f first many st p h 4 (-1, 0, 0, 0)).2.2.1 else (bsO mem f first many st p h 4 (-1, 0, 0, 0)).2.2.2
def F59 (mem mm : Int → Int → Int) : Prop := (∀ a j : Int, (a < 59 ∨ 62 < a) → mm a j = mem a j) ∧ ∀ j : Int, 0 ≤ j → j < 200 → mm 59 j = 0
theorem rtN_c {mem mm : Int → Int → Int} (h : F59 mem mm) (f first st o p e m hh : Int) (k : Nat) : rtN mm f first st o p e m hh k = rtN mem f first st o p e m hh k := by
  have h1 : mm 36 = mem 36 := funext fun j => h.1 36 j (by decide)
  have h2 : mm 37 = mem 37 := funext fun j => h.1 37 j (by decide)
  have h3 : mm 38 = mem 38 := funext fun j => h.1 38 j (by decide)
  induction k with
  | zero => rfl
  | succ k ih => unfold rtN nearL; rw [ih, h1, h2, h3]
set_option maxHeartbeats 4000000 in
set_option maxRecDepth 100000 in
theorem c_X12_best {l : Launch} {g : GP} (hG : GH g) {kd : Int → Nat} {ln : Int → Int} {mem : Int → Int → Int} {sz : Nat} (hS : SK kd ln) (hR : SR mem) (f first many st p h w : Int) (h_f : InI f) (h_first : InI first) (h_many : InI many) (h_st : InI st) (h_p : InI p) (h_h : InI h) (h_w : InI w) (hFN : ∀ f : Int, 0 ≤ f → f ≤ mem 35 6 - 1 → FN mem f) (h6 : 0 ≤ mem 35 6 ∧ mem 35 6 ≤ 10) (h89 : 1 ≤ mem 35 89 ∧ mem 35 89 ≤ 100) : MT l g yX12_best cX12_best 17 (some .int) 5 0 0 [(2, 35), (0, f), (0, first), (0, many), (0, st), (0, p), (0, h), (0, w)] kd ln mem sz (pMR 0 (fun v mem' => SR mem' ∧ ((bestC mem f first many st p h w → v = bestV mem f first many st p h w ∧ ∀ a j : Int, (a < 59 ∨ 62 < a) → mem' a j = mem a j) ∧ (¬ bestC mem f first many st p h w → v = -1 ∧ mem' = mem))) kd ln sz) := by
  refine MT_of hG (by decide +kernel) (Nat.le_of_ble_eq_true rfl) (fun z hF hr hn => ?_)
  refine jblk hF [(.iload_n 1, 1), (.iconst 0, 1), (.aload_n 0, 1)] (by decide +kernel) (pc' := 3) (lo' := [(0, (2, 35)), (1, (0, f)), (2, (0, first)), (3, (0, many)), (4, (0, st)), (5, (0, p)), (6, (0, h)), (7, (0, w))]) (st' := [(2, 35), (0, 0), (0, f)]) rfl ?_
  refine jget hF 13 6 0 6 rfl (by decide) (by decide) rfl wd_1469 (by decide +kernel) (by exact hS.k35) ?_
  refine jblk hF [(.iconst 1, 1), (.isub, 1)] (by decide +kernel) (pc' := 8) (lo' := [(0, (2, 35)), (1, (0, f)), (2, (0, first)), (3, (0, many)), (4, (0, st)), (5, (0, p)), (6, (0, h)), (7, (0, w))]) (st' := [(0, (mem 35 6) - 1), (0, 0), (0, f)]) rfl ?_
  refine jcallS hF (c_X12_in hG f 0 ((mem 35 6) - 1) (by omega) (by decide) (by omega)) MW_X12_in wd_1743 wd_1744 (by decide +kernel) [] rfl rfl (by decide) (Nat.le_of_ble_eq_true rfl) (by decide) (kB (fun h_1 => ?_) (fun h_1 => ?_))
  · refine jif_eq hF (off := 79) 90 (by decide +kernel) (by decide) (by decide) (fun h => absurd h (by decide)) (fun _ => ?_)
    refine jblk hF [(.iload_n 2, 1), (.iconst 1, 1), (.sipush 9999, 3)] (by decide +kernel) (pc' := 19) (lo' := [(0, (2, 35)), (1, (0, f)), (2, (0, first)), (3, (0, many)), (4, (0, st)), (5, (0, p)), (6, (0, h)), (7, (0, w))]) (st' := [(0, 9999), (0, 1), (0, first)]) rfl ?_
    refine jcallS hF (c_X12_in hG first 1 9999 (by omega) (by decide) (by decide)) MW_X12_in wd_1743 wd_1744 (by decide +kernel) [] rfl rfl (by decide) (Nat.le_of_ble_eq_true rfl) (by decide) (kB (fun h_3 => ?_) (fun h_3 => ?_))
    · refine jif_eq hF (off := 68) 90 (by decide +kernel) (by decide) (by decide) (fun h => absurd h (by decide)) (fun _ => ?_)
      refine jblk hF [(.iload_n 3, 1), (.iconst 2, 1), (.bipush 40, 2)] (by decide +kernel) (pc' := 29) (lo' := [(0, (2, 35)), (1, (0, f)), (2, (0, first)), (3, (0, many)), (4, (0, st)), (5, (0, p)), (6, (0, h)), (7, (0, w))]) (st' := [(0, 40), (0, 2), (0, many)]) rfl ?_
      refine jcallS hF (c_X12_in hG many 2 40 (by omega) (by decide) (by decide)) MW_X12_in wd_1743 wd_1744 (by decide +kernel) [] rfl rfl (by decide) (Nat.le_of_ble_eq_true rfl) (by decide) (kB (fun h_5 => ?_) (fun h_5 => ?_))
      · refine jif_eq hF (off := 58) 90 (by decide +kernel) (by decide) (by decide) (fun h => absurd h (by decide)) (fun _ => ?_)
        refine jblk hF [(.iload 4, 2), (.iconst 1, 1), (.bipush 50, 2)] (by decide +kernel) (pc' := 40) (lo' := [(0, (2, 35)), (1, (0, f)), (2, (0, first)), (3, (0, many)), (4, (0, st)), (5, (0, p)), (6, (0, h)), (7, (0, w))]) (st' := [(0, 50), (0, 1), (0, st)]) rfl ?_
        refine jcallS hF (c_X12_in hG st 1 50 (by omega) (by decide) (by decide)) MW_X12_in wd_1743 wd_1744 (by decide +kernel) [] rfl rfl (by decide) (Nat.le_of_ble_eq_true rfl) (by decide) (kB (fun h_7 => ?_) (fun h_7 => ?_))
        · refine jif_eq hF (off := 47) 90 (by decide +kernel) (by decide) (by decide) (fun h => absurd h (by decide)) (fun _ => ?_)
          refine jblk hF [(.iload 5, 2), (.iconst 0, 1), (.iconst 5, 1)] (by decide +kernel) (pc' := 50) (lo' := [(0, (2, 35)), (1, (0, f)), (2, (0, first)), (3, (0, many)), (4, (0, st)), (5, (0, p)), (6, (0, h)), (7, (0, w))]) (st' := [(0, 5), (0, 0), (0, p)]) rfl ?_
          refine jcallS hF (c_X12_in hG p 0 5 (by omega) (by decide) (by decide)) MW_X12_in wd_1743 wd_1744 (by decide +kernel) [] rfl rfl (by decide) (Nat.le_of_ble_eq_true rfl) (by decide) (kB (fun h_9 => ?_) (fun h_9 => ?_))
          · refine jif_eq hF (off := 37) 90 (by decide +kernel) (by decide) (by decide) (fun h => absurd h (by decide)) (fun _ => ?_)
            refine jblk hF [(.iload 6, 2), (.iconst 0, 1), (.iconst 2, 1)] (by decide +kernel) (pc' := 60) (lo' := [(0, (2, 35)), (1, (0, f)), (2, (0, first)), (3, (0, many)), (4, (0, st)), (5, (0, p)), (6, (0, h)), (7, (0, w))]) (st' := [(0, 2), (0, 0), (0, h)]) rfl ?_
            refine jcallS hF (c_X12_in hG h 0 2 (by omega) (by decide) (by decide)) MW_X12_in wd_1743 wd_1744 (by decide +kernel) [] rfl rfl (by decide) (Nat.le_of_ble_eq_true rfl) (by decide) (kB (fun h_11 => ?_) (fun h_11 => ?_))
            · refine jif_eq hF (off := 27) 90 (by decide +kernel) (by decide) (by decide) (fun h => absurd h (by decide)) (fun _ => ?_)
              refine jblk hF [(.iload 7, 2), (.iconst 0, 1), (.iconst 3, 1)] (by decide +kernel) (pc' := 70) (lo' := [(0, (2, 35)), (1, (0, f)), (2, (0, first)), (3, (0, many)), (4, (0, st)), (5, (0, p)), (6, (0, h)), (7, (0, w))]) (st' := [(0, 3), (0, 0), (0, w)]) rfl ?_
              refine jcallS hF (c_X12_in hG w 0 3 (by omega) (by decide) (by decide)) MW_X12_in wd_1743 wd_1744 (by decide +kernel) [] rfl rfl (by decide) (Nat.le_of_ble_eq_true rfl) (by decide) (kB (fun h_13 => ?_) (fun h_13 => ?_))
              · refine jif_eq hF (off := 17) 90 (by decide +kernel) (by decide) (by decide) (fun h => absurd h (by decide)) (fun _ => ?_)
                have hms := mul_bd (a := many - 1) (b := st) (M := 39) (N := 50) (by omega) (by omega)
                refine jblk hF [(.iload_n 2, 1), (.iload_n 3, 1), (.iconst 1, 1), (.isub, 1), (.iload 4, 2), (.imul, 1), (.iadd, 1), (.sipush 9999, 3)] (by decide +kernel) (pc' := 87) (lo' := [(0, (2, 35)), (1, (0, f)), (2, (0, first)), (3, (0, many)), (4, (0, st)), (5, (0, p)), (6, (0, h)), (7, (0, w))]) (st' := [(0, 9999), (0, first + ((many - 1) * st))]) rfl ?_
                refine jicmp_le hF (off := 5) 92 (by decide +kernel) (by decide) (by omega) (by decide) (fun h_15 => ?_) (fun h_15 => ?_)
                · have hFf := hFN f (by omega) (by omega)
                  refine jblk hF [(.iconst (-1), 1), (.istore 8, 2), (.iconst 0, 1), (.istore 9, 2), (.iconst 0, 1), (.istore 10, 2), (.iconst 0, 1), (.istore 11, 2), (.aload_n 0, 1)] (by decide +kernel) (pc' := 105) (lo' := [(11, (0, 0)), (10, (0, 0)), (9, (0, 0)), (8, (0, (-1))), (0, (2, 35)), (1, (0, f)), (2, (0, first)), (3, (0, many)), (4, (0, st)), (5, (0, p)), (6, (0, h)), (7, (0, w))]) (st' := [(2, 35)]) rfl ?_
                  refine jcallV hF (c_X12_clear hG hS hR) MW_X12_clear 13 (by decide) (by exact hS.k35) wd_1988 wd_1990 wd_p81 (by decide +kernel) [] rfl rfl (by decide) (Nat.le_of_ble_eq_true rfl) (by decide) (kMV (fun m_16 h_17 => ?_))
                  obtain ⟨hR_m_16, h_17⟩ := h_17
                  have hcl := h_17
                  refine jblk hF [(.iconst 1, 1), (.istore 12, 2)] (by decide +kernel) (pc' := 111) (lo' := [(12, (0, 1)), (11, (0, 0)), (10, (0, 0)), (9, (0, 0)), (8, (0, (-1))), (0, (2, 35)), (1, (0, f)), (2, (0, first)), (3, (0, many)), (4, (0, st)), (5, (0, p)), (6, (0, h)), (7, (0, w))]) (st' := []) rfl ?_
                  have L_19 : ∀ (fu_20 : Nat) (L1 : Int) (O1 : Int) (C1 : Int) (Q1 : Int) (o : Int) (m1 : Int → Int → Int), (-1 ≤ L1 ∧ L1 ≤ 10000) → (SR m1) → (F59 mem m1) → (((L1, O1, C1, Q1) : BS) = bsO mem f first many st p h (o - 1).toNat (-1, 0, 0, 0)) → (1 ≤ o ∧ o ≤ 5) →  (5 - o).toNat < fu_20 → J z g 17 0 0 (QM z g 0 0 (pMR 0 (fun v mem' => SR mem' ∧ ((bestC mem f first many st p h w → v = bestV mem f first many st p h w ∧ ∀ a j : Int, (a < 59 ∨ 62 < a) → mem' a j = mem a j) ∧ (¬ bestC mem f first many st p h w → v = -1 ∧ mem' = mem))) kd ln sz)) 111 [(0, (2, 35)), (1, (0, f)), (2, (0, first)), (3, (0, many)), (4, (0, st)), (5, (0, p)), (6, (0, h)), (7, (0, w)), (8, (0, L1)), (9, (0, O1)), (10, (0, C1)), (11, (0, Q1)), (12, (0, o))] [] kd ln m1 sz := by
                    intro fu_20
                    induction fu_20 with
                    | zero => intro L1 O1 C1 Q1 o m1 _ _ _ _ _ hm; omega
                    | succ fu_20 ih_18 =>
                      intro L1 O1 C1 Q1 o m1 hL1 hR_m1 hf1 hS1 ho hm1
                      refine jblk hF [(.iload 12, 2), (.iconst 4, 1)] (by decide +kernel) (pc' := 114) (lo' := [(0, (2, 35)), (1, (0, f)), (2, (0, first)), (3, (0, many)), (4, (0, st)), (5, (0, p)), (6, (0, h)), (7, (0, w)), (8, (0, L1)), (9, (0, O1)), (10, (0, C1)), (11, (0, Q1)), (12, (0, o))]) (st' := [(0, 4), (0, o)]) rfl ?_
                      refine jicmp_gt hF (off := 161) 275 (by decide +kernel) (by decide) (by omega) (by decide) (fun h_21 => ?_) (fun h_21 => ?_)
                      · refine jblk hF [(.iload 8, 2), (.iconst (-1), 1)] (by decide +kernel) (pc' := 278) (lo' := [(0, (2, 35)), (1, (0, f)), (2, (0, first)), (3, (0, many)), (4, (0, st)), (5, (0, p)), (6, (0, h)), (7, (0, w)), (8, (0, L1)), (9, (0, O1)), (10, (0, C1)), (11, (0, Q1)), (12, (0, o))]) (st' := [(0, (-1)), (0, L1)]) rfl ?_
                        refine jicmp_ne hF (off := 7) 285 (by decide +kernel) (by decide) (by omega) (by decide) (fun h_22 => ?_) (fun h_22 => ?_)
                        · refine jblk hF [(.iload 7, 2)] (by decide +kernel) (pc' := 287) (lo' := [(0, (2, 35)), (1, (0, f)), (2, (0, first)), (3, (0, many)), (4, (0, st)), (5, (0, p)), (6, (0, h)), (7, (0, w)), (8, (0, L1)), (9, (0, O1)), (10, (0, C1)), (11, (0, Q1)), (12, (0, o))]) (st' := [(0, w)]) rfl ?_
                          refine jif_ne hF (off := 8) 295 (by decide +kernel) (by decide) (by omega) (fun h_23 => ?_) (fun h_23 => ?_)
                          · refine jblk hF [(.iload 7, 2), (.iconst 1, 1)] (by decide +kernel) (pc' := 298) (lo' := [(0, (2, 35)), (1, (0, f)), (2, (0, first)), (3, (0, many)), (4, (0, st)), (5, (0, p)), (6, (0, h)), (7, (0, w)), (8, (0, L1)), (9, (0, O1)), (10, (0, C1)), (11, (0, Q1)), (12, (0, o))]) (st' := [(0, 1), (0, w)]) rfl ?_
                            refine jicmp_ne hF (off := 8) 306 (by decide +kernel) (by decide) (by omega) (by decide) (fun h_24 => ?_) (fun h_24 => ?_)
                            · refine jblk hF [(.iload 7, 2), (.iconst 2, 1)] (by decide +kernel) (pc' := 309) (lo' := [(0, (2, 35)), (1, (0, f)), (2, (0, first)), (3, (0, many)), (4, (0, st)), (5, (0, p)), (6, (0, h)), (7, (0, w)), (8, (0, L1)), (9, (0, O1)), (10, (0, C1)), (11, (0, Q1)), (12, (0, o))]) (st' := [(0, 2), (0, w)]) rfl ?_
                              refine jicmp_ne hF (off := 8) 317 (by decide +kernel) (by decide) (by omega) (by decide) (fun h_25 => ?_) (fun h_25 => ?_)
                              · refine jblk hF [(.iload 11, 2)] (by decide +kernel) (pc' := 319) (lo' := [(0, (2, 35)), (1, (0, f)), (2, (0, first)), (3, (0, many)), (4, (0, st)), (5, (0, p)), (6, (0, h)), (7, (0, w)), (8, (0, L1)), (9, (0, O1)), (10, (0, C1)), (11, (0, Q1)), (12, (0, o))]) (st' := [(0, Q1)]) rfl ?_
                                refine jiret hF hr (by decide +kernel) ?_
                                exact lMR ⟨hR_m1, by (refine ⟨fun _ => ⟨?_, hf1.1⟩, fun h => absurd (by omega) h⟩; have ho5 : (o - 1).toNat = 4 := (by omega); rw [ho5] at hS1; unfold bestV; rw [← hS1]; (repeat' split) <;> first | rfl | (exfalso; omega))⟩
                              · refine jblk hF [(.iload 10, 2)] (by decide +kernel) (pc' := 314) (lo' := [(0, (2, 35)), (1, (0, f)), (2, (0, first)), (3, (0, many)), (4, (0, st)), (5, (0, p)), (6, (0, h)), (7, (0, w)), (8, (0, L1)), (9, (0, O1)), (10, (0, C1)), (11, (0, Q1)), (12, (0, o))]) (st' := [(0, C1)]) rfl ?_
                                refine jgoto hF (off := 5) 319 (by decide +kernel) (by decide) ?_
                                refine jiret hF hr (by decide +kernel) ?_
                                exact lMR ⟨hR_m1, by (refine ⟨fun _ => ⟨?_, hf1.1⟩, fun h => absurd (by omega) h⟩; have ho5 : (o - 1).toNat = 4 := (by omega); rw [ho5] at hS1; unfold bestV; rw [← hS1]; (repeat' split) <;> first | rfl | (exfalso; omega))⟩
                            · refine jblk hF [(.iload 9, 2)] (by decide +kernel) (pc' := 303) (lo' := [(0, (2, 35)), (1, (0, f)), (2, (0, first)), (3, (0, many)), (4, (0, st)), (5, (0, p)), (6, (0, h)), (7, (0, w)), (8, (0, L1)), (9, (0, O1)), (10, (0, C1)), (11, (0, Q1)), (12, (0, o))]) (st' := [(0, O1)]) rfl ?_
                              refine jgoto hF (off := 16) 319 (by decide +kernel) (by decide) ?_
                              refine jiret hF hr (by decide +kernel) ?_
                              exact lMR ⟨hR_m1, by (refine ⟨fun _ => ⟨?_, hf1.1⟩, fun h => absurd (by omega) h⟩; have ho5 : (o - 1).toNat = 4 := (by omega); rw [ho5] at hS1; unfold bestV; rw [← hS1]; (repeat' split) <;> first | rfl | (exfalso; omega))⟩
                          · refine jblk hF [(.iload 8, 2)] (by decide +kernel) (pc' := 292) (lo' := [(0, (2, 35)), (1, (0, f)), (2, (0, first)), (3, (0, many)), (4, (0, st)), (5, (0, p)), (6, (0, h)), (7, (0, w)), (8, (0, L1)), (9, (0, O1)), (10, (0, C1)), (11, (0, Q1)), (12, (0, o))]) (st' := [(0, L1)]) rfl ?_
                            refine jgoto hF (off := 27) 319 (by decide +kernel) (by decide) ?_
                            refine jiret hF hr (by decide +kernel) ?_
                            exact lMR ⟨hR_m1, by (refine ⟨fun _ => ⟨?_, hf1.1⟩, fun h => absurd (by omega) h⟩; have ho5 : (o - 1).toNat = 4 := (by omega); rw [ho5] at hS1; unfold bestV; rw [← hS1]; (repeat' split) <;> first | rfl | (exfalso; omega))⟩
                        · refine jblk hF [(.iconst (-1), 1)] (by decide +kernel) (pc' := 282) (lo' := [(0, (2, 35)), (1, (0, f)), (2, (0, first)), (3, (0, many)), (4, (0, st)), (5, (0, p)), (6, (0, h)), (7, (0, w)), (8, (0, L1)), (9, (0, O1)), (10, (0, C1)), (11, (0, Q1)), (12, (0, o))]) (st' := [(0, (-1))]) rfl ?_
                          refine jgoto hF (off := 37) 319 (by decide +kernel) (by decide) ?_
                          refine jiret hF hr (by decide +kernel) ?_
                          exact lMR ⟨hR_m1, by (refine ⟨fun _ => ⟨?_, hf1.1⟩, fun h => absurd (by omega) h⟩; have ho5 : (o - 1).toNat = 4 := (by omega); rw [ho5] at hS1; unfold bestV; rw [← hS1]; (repeat' split) <;> first | rfl | (exfalso; omega))⟩
                      · refine jblk hF [(.iconst 0, 1), (.istore 13, 2)] (by decide +kernel) (pc' := 120) (lo' := [(13, (0, 0)), (0, (2, 35)), (1, (0, f)), (2, (0, first)), (3, (0, many)), (4, (0, st)), (5, (0, p)), (6, (0, h)), (7, (0, w)), (8, (0, L1)), (9, (0, O1)), (10, (0, C1)), (11, (0, Q1)), (12, (0, o))]) (st' := []) rfl ?_
                        have L_27 : ∀ (fu_28 : Nat) (L2 : Int) (O2 : Int) (C2 : Int) (Q2 : Int) (e : Int) (m2 : Int → Int → Int), (-1 ≤ L2 ∧ L2 ≤ 10000) → (SR m2) → (F59 mem m2) → (((L2, O2, C2, Q2) : BS) = bsC mem f first many st p h o e.toNat (bsO mem f first many st p h (o - 1).toNat (-1, 0, 0, 0))) → (0 ≤ e ∧ e ≤ 7 - p) →  (7 - p - e).toNat < fu_28 → J z g 17 0 0 (QM z g 0 0 (pMR 0 (fun v mem' => SR mem' ∧ ((bestC mem f first many st p h w → v = bestV mem f first many st p h w ∧ ∀ a j : Int, (a < 59 ∨ 62 < a) → mem' a j = mem a j) ∧ (¬ bestC mem f first many st p h w → v = -1 ∧ mem' = mem))) kd ln sz)) 120 [(0, (2, 35)), (1, (0, f)), (2, (0, first)), (3, (0, many)), (4, (0, st)), (5, (0, p)), (6, (0, h)), (7, (0, w)), (8, (0, L2)), (9, (0, O2)), (10, (0, C2)), (11, (0, Q2)), (12, (0, o)), (13, (0, e))] [] kd ln m2 sz := by
                          intro fu_28
                          induction fu_28 with
                          | zero => intro L2 O2 C2 Q2 e m2 _ _ _ _ _ hm; omega
                          | succ fu_28 ih_26 =>
                            intro L2 O2 C2 Q2 e m2 hL2 hR_m2 hf2 hS2 he hm2
                            refine jblk hF [(.iload 13, 2), (.bipush 6, 2), (.iload 5, 2), (.isub, 1)] (by decide +kernel) (pc' := 127) (lo' := [(0, (2, 35)), (1, (0, f)), (2, (0, first)), (3, (0, many)), (4, (0, st)), (5, (0, p)), (6, (0, h)), (7, (0, w)), (8, (0, L2)), (9, (0, O2)), (10, (0, C2)), (11, (0, Q2)), (12, (0, o)), (13, (0, e))]) (st' := [(0, 6 - p), (0, e)]) rfl ?_
                            refine jicmp_gt hF (off := 142) 269 (by decide +kernel) (by decide) (by omega) (by omega) (fun h_29 => ?_) (fun h_29 => ?_)
                            · refine jblk hF [(.iinc 12 1, 3)] (by decide +kernel) (pc' := 272) (lo' := [(12, (0, o + 1)), (0, (2, 35)), (1, (0, f)), (2, (0, first)), (3, (0, many)), (4, (0, st)), (5, (0, p)), (6, (0, h)), (7, (0, w)), (8, (0, L2)), (9, (0, O2)), (10, (0, C2)), (11, (0, Q2)), (13, (0, e))]) (st' := []) rfl ?_
                              refine jgoto hF (off := (-161)) 111 (by decide +kernel) (by decide) ?_
                              refine jsub [1, 2, 3, 4, 5, 6, 7, 8, 9, 10, 11, 12, 0] rfl ?_
                              refine ih_18 L2 O2 C2 Q2 (o + 1) m2 ?_ ?_ ?_ ?_ ?_ ?_
                              · omega
                              · exact hR_m2
                              · exact hf2
                              · rw [bsO_s (by omega), hS2, show (7 - p).toNat = e.toNat by omega]
                              · omega
                              · omega
                            · refine jblk hF [(.iload 12, 2), (.iconst 2, 1), (.iadd, 1), (.istore 14, 2)] (by decide +kernel) (pc' := 136) (lo' := [(14, (0, o + 2)), (0, (2, 35)), (1, (0, f)), (2, (0, first)), (3, (0, many)), (4, (0, st)), (5, (0, p)), (6, (0, h)), (7, (0, w)), (8, (0, L2)), (9, (0, O2)), (10, (0, C2)), (11, (0, Q2)), (12, (0, o)), (13, (0, e))]) (st' := []) rfl ?_
                              have L_31 : ∀ (fu_32 : Nat) (L3 : Int) (O3 : Int) (C3 : Int) (Q3 : Int) (m : Int) (m3 : Int → Int → Int), (-1 ≤ L3 ∧ L3 ≤ 10000) → (SR m3) → (F59 mem m3) → (((L3, O3, C3, Q3) : BS) = bsM mem f first many st p h o e (m - (o + 2)).toNat (bsC mem f first many st p h o e.toNat (bsO mem f first many st p h (o - 1).toNat (-1, 0, 0, 0)))) → (o + 2 ≤ m ∧ m ≤ 41) →  (41 - m).toNat < fu_32 → J z g 17 0 0 (QM z g 0 0 (pMR 0 (fun v mem' => SR mem' ∧ ((bestC mem f first many st p h w → v = bestV mem f first many st p h w ∧ ∀ a j : Int, (a < 59 ∨ 62 < a) → mem' a j = mem a j) ∧ (¬ bestC mem f first many st p h w → v = -1 ∧ mem' = mem))) kd ln sz)) 136 [(0, (2, 35)), (1, (0, f)), (2, (0, first)), (3, (0, many)), (4, (0, st)), (5, (0, p)), (6, (0, h)), (7, (0, w)), (8, (0, L3)), (9, (0, O3)), (10, (0, C3)), (11, (0, Q3)), (12, (0, o)), (13, (0, e)), (14, (0, m))] [] kd ln m3 sz := by
                                intro fu_32
                                induction fu_32 with
                                | zero => intro L3 O3 C3 Q3 m m3 _ _ _ _ _ hm; omega
                                | succ fu_32 ih_30 =>
                                  intro L3 O3 C3 Q3 m m3 hL3 hR_m3 hf3 hS3 hmm hm3
                                  refine jblk hF [(.iload 14, 2), (.bipush 40, 2)] (by decide +kernel) (pc' := 140) (lo' := [(0, (2, 35)), (1, (0, f)), (2, (0, first)), (3, (0, many)), (4, (0, st)), (5, (0, p)), (6, (0, h)), (7, (0, w)), (8, (0, L3)), (9, (0, O3)), (10, (0, C3)), (11, (0, Q3)), (12, (0, o)), (13, (0, e)), (14, (0, m))]) (st' := [(0, 40), (0, m)]) rfl ?_
                                  refine jicmp_gt hF (off := 123) 263 (by decide +kernel) (by decide) (by omega) (by decide) (fun h_33 => ?_) (fun h_33 => ?_)
                                  · refine jblk hF [(.iinc 13 1, 3)] (by decide +kernel) (pc' := 266) (lo' := [(13, (0, e + 1)), (0, (2, 35)), (1, (0, f)), (2, (0, first)), (3, (0, many)), (4, (0, st)), (5, (0, p)), (6, (0, h)), (7, (0, w)), (8, (0, L3)), (9, (0, O3)), (10, (0, C3)), (11, (0, Q3)), (12, (0, o)), (14, (0, m))]) (st' := []) rfl ?_
                                    refine jgoto hF (off := (-146)) 120 (by decide +kernel) (by decide) ?_
                                    refine jsub [1, 2, 3, 4, 5, 6, 7, 8, 9, 10, 11, 12, 13, 0] rfl ?_
                                    refine ih_26 L3 O3 C3 Q3 (e + 1) m3 ?_ ?_ ?_ ?_ ?_ ?_
                                    · omega
                                    · exact hR_m3
                                    · exact hf3
                                    · rw [bsC_s (by omega), hS3, show (39 - o).toNat = (m - (o + 2)).toNat by omega]
                                    · omega
                                    · omega
                                  · refine jblk hF [(.iconst 0, 1), (.istore 15, 2), (.iconst 0, 1), (.istore 16, 2)] (by decide +kernel) (pc' := 149) (lo' := [(16, (0, 0)), (15, (0, 0)), (0, (2, 35)), (1, (0, f)), (2, (0, first)), (3, (0, many)), (4, (0, st)), (5, (0, p)), (6, (0, h)), (7, (0, w)), (8, (0, L3)), (9, (0, O3)), (10, (0, C3)), (11, (0, Q3)), (12, (0, o)), (13, (0, e)), (14, (0, m))]) (st' := []) rfl ?_
                                    have L_35 : ∀ (fu_36 : Nat) (d : Int) (n : Int), (0 ≤ n ∧ n ≤ many) → (d = mdN o m n.toNat) →  (many - n).toNat < fu_36 → J z g 17 0 0 (QM z g 0 0 (pMR 0 (fun v mem' => SR mem' ∧ ((bestC mem f first many st p h w → v = bestV mem f first many st p h w ∧ ∀ a j : Int, (a < 59 ∨ 62 < a) → mem' a j = mem a j) ∧ (¬ bestC mem f first many st p h w → v = -1 ∧ mem' = mem))) kd ln sz)) 149 [(0, (2, 35)), (1, (0, f)), (2, (0, first)), (3, (0, many)), (4, (0, st)), (5, (0, p)), (6, (0, h)), (7, (0, w)), (8, (0, L3)), (9, (0, O3)), (10, (0, C3)), (11, (0, Q3)), (12, (0, o)), (13, (0, e)), (14, (0, m)), (15, (0, d)), (16, (0, n))] [] kd ln m3 sz := by
                                      intro fu_36
                                      induction fu_36 with
                                      | zero => intro d n _ _ hm; omega
                                      | succ fu_36 ih_34 =>
                                        intro d n hn1 hd hm4
                                        have hdb0 := mdN_bd o m n.toNat
                                        refine jblk hF [(.iload 16, 2), (.iload_n 3, 1)] (by decide +kernel) (pc' := 152) (lo' := [(0, (2, 35)), (1, (0, f)), (2, (0, first)), (3, (0, many)), (4, (0, st)), (5, (0, p)), (6, (0, h)), (7, (0, w)), (8, (0, L3)), (9, (0, O3)), (10, (0, C3)), (11, (0, Q3)), (12, (0, o)), (13, (0, e)), (14, (0, m)), (15, (0, d)), (16, (0, n))]) (st' := [(0, many), (0, n)]) rfl ?_
                                        refine jicmp_ge hF (off := 29) 181 (by decide +kernel) (by decide) (by omega) (by omega) (fun h_37 => ?_) (fun h_37 => ?_)
                                        · have hne : n = many := by omega
                                          rw [hne] at hd
                                          have hdb := mdN_bd o m many.toNat
                                          have e89 : m3 35 89 = mem 35 89 := hf3.1 35 89 (by decide)
                                          have hc1 := mul_bd (a := mem 35 89) (b := many - d) (M := 100) (N := 40) (by omega) (by omega)
                                          have hc2 := mul_bd (a := o) (b := d) (M := 4) (N := 40) (by omega) (by omega)
                                          have hc3 := mul_bd (a := e) (b := many) (M := 6) (N := 40) (by omega) (by omega)
                                          refine jblk hF [(.aload_n 0, 1)] (by decide +kernel) (pc' := 182) (lo' := [(0, (2, 35)), (1, (0, f)), (2, (0, first)), (3, (0, many)), (4, (0, st)), (5, (0, p)), (6, (0, h)), (7, (0, w)), (8, (0, L3)), (9, (0, O3)), (10, (0, C3)), (11, (0, Q3)), (12, (0, o)), (13, (0, e)), (14, (0, m)), (15, (0, d)), (16, (0, n))]) (st' := [(2, 35)]) rfl ?_
                                          refine jget hF 13 89 0 89 rfl (by decide) (by decide) rfl wd_1552 (by decide +kernel) (by exact hS.k35) ?_
                                          refine jblk hF [(.iload_n 3, 1), (.iload 15, 2), (.isub, 1), (.imul, 1), (.iload 12, 2), (.iload 15, 2), (.imul, 1), (.iadd, 1), (.iload 13, 2), (.iload_n 3, 1), (.imul, 1), (.iadd, 1), (.istore 16, 2)] (by decide +kernel) (pc' := 203) (lo' := [(16, (0, (((m3 35 89) * (many - d)) + (o * d)) + (e * many))), (0, (2, 35)), (1, (0, f)), (2, (0, first)), (3, (0, many)), (4, (0, st)), (5, (0, p)), (6, (0, h)), (7, (0, w)), (8, (0, L3)), (9, (0, O3)), (10, (0, C3)), (11, (0, Q3)), (12, (0, o)), (13, (0, e)), (14, (0, m)), (15, (0, d))]) (st' := []) rfl ?_
                                          have hco : ((((m3 35 89) * (many - d)) + (o * d)) + (e * many)) = costV mem many o e m := by unfold costV; rw [e89, hd]
                                          have hcb : 0 ≤ costV mem many o e m ∧ costV mem many o e m ≤ 10000 := by rw [← hco, e89]; omega
                                          refine jblk hF [(.iload 8, 2), (.iconst (-1), 1)] (by decide +kernel) (pc' := 206) (lo' := [(16, (0, (((m3 35 89) * (many - d)) + (o * d)) + (e * many))), (0, (2, 35)), (1, (0, f)), (2, (0, first)), (3, (0, many)), (4, (0, st)), (5, (0, p)), (6, (0, h)), (7, (0, w)), (8, (0, L3)), (9, (0, O3)), (10, (0, C3)), (11, (0, Q3)), (12, (0, o)), (13, (0, e)), (14, (0, m)), (15, (0, d))]) (st' := [(0, (-1)), (0, L3)]) rfl ?_
                                          refine jicmp_eq hF (off := 10) 216 (by decide +kernel) (by decide) (by omega) (by decide) (fun h_38 => ?_) (fun h_38 => ?_)
                                          · have hAx : MKA m3 f first st many o (p + e) m := ⟨by unfold FN; rw [hf3.1 36 f (by decide), hf3.1 37 f (by decide), hf3.1 38 f (by decide)]; exact hFf, by omega, by omega, by omega, by omega, by omega, by omega, by omega, by omega, by omega, by omega, by omega, by omega⟩
                                            refine jblk hF [(.aload_n 0, 1), (.iload_n 1, 1), (.iload_n 2, 1), (.iload 4, 2), (.iload_n 3, 1), (.iload 12, 2), (.iload 5, 2), (.iload 13, 2), (.iload 14, 2), (.iload 6, 2)] (by decide +kernel) (pc' := 232) (lo' := [(16, (0, (((m3 35 89) * (many - d)) + (o * d)) + (e * many))), (0, (2, 35)), (1, (0, f)), (2, (0, first)), (3, (0, many)), (4, (0, st)), (5, (0, p)), (6, (0, h)), (7, (0, w)), (8, (0, L3)), (9, (0, O3)), (10, (0, C3)), (11, (0, Q3)), (12, (0, o)), (13, (0, e)), (14, (0, m)), (15, (0, d))]) (st' := [(0, h), (0, m), (0, e), (0, p), (0, o), (0, many), (0, st), (0, first), (0, f), (2, 35)]) rfl ?_
                                            refine jcallV hF (c_X12_isRight hG hS hR_m3 f first st many o p e m h (by exact hAx) (by omega) (by exact hf3.2)) MW_X12_isRight 13 (by decide) (by exact hS.k35) wd_2245 wd_2247 wd_p102 (by decide +kernel) [] rfl rfl (by decide) (Nat.le_of_ble_eq_true rfl) (by decide) (kMB (fun m_39 h_40 => ?_) (fun m_39 h_40 => ?_))
                                            · obtain ⟨hR_m_39, h_40⟩ := h_40
                                              have hq9 := h_40
                                              have hf4 : F59 mem m_39 := ⟨fun a j q => (hq9.2 a j (by omega) (by omega) (by omega)).trans (hf3.1 a j q), fun j q1 q2 => (hq9.2 59 j (by decide) (by decide) (by decide)).trans (hf3.2 j q1 q2)⟩
                                              have hrt := hq9.1
                                              rw [rtN_c hf3] at hrt
                                              refine jif_ne hF (off := 6) 241 (by decide +kernel) (by decide) (by decide) (fun _ => ?_) (fun h => absurd h (by decide))
                                              refine jblk hF [(.iload 16, 2), (.istore 8, 2), (.iload 12, 2), (.istore 9, 2), (.iload 13, 2), (.istore 10, 2), (.iload 14, 2), (.istore 11, 2), (.iinc 14 1, 3)] (by decide +kernel) (pc' := 260) (lo' := [(14, (0, m + 1)), (11, (0, m)), (10, (0, e)), (9, (0, o)), (8, (0, (((m3 35 89) * (many - d)) + (o * d)) + (e * many))), (16, (0, (((m3 35 89) * (many - d)) + (o * d)) + (e * many))), (0, (2, 35)), (1, (0, f)), (2, (0, first)), (3, (0, many)), (4, (0, st)), (5, (0, p)), (6, (0, h)), (7, (0, w)), (12, (0, o)), (13, (0, e)), (15, (0, d))]) (st' := []) rfl ?_
                                              refine jgoto hF (off := (-124)) 136 (by decide +kernel) (by decide) ?_
                                              refine jsub [6, 7, 8, 9, 10, 11, 12, 13, 4, 3, 2, 1, 14, 15, 0] rfl ?_
                                              refine ih_30 ((((m3 35 89) * (many - d)) + (o * d)) + (e * many)) o e m (m + 1) m_39 ?_ ?_ ?_ ?_ ?_ ?_
                                              · omega
                                              · exact hR_m_39
                                              · first | exact hf4 | exact hf3
                                              · rw [bsM_s (by omega), ← hS3]; unfold bsS; first | (rw [if_pos (by show L3 ≠ -1 ∧ L3 ≤ _; omega)]; done) | (rw [if_neg (by show ¬ (L3 ≠ -1 ∧ L3 ≤ _); omega)]; first | (rw [if_pos (hrt.mp trivial), ← hco]; done) | (rw [if_pos (hrt.mp trivial), ← hco]) | (rw [if_neg (fun q8 => hrt.mpr q8)]; done))
                                              · omega
                                              · omega
                                            · obtain ⟨hR_m_39, h_40⟩ := h_40
                                              have hq9 := h_40
                                              have hf4 : F59 mem m_39 := ⟨fun a j q => (hq9.2 a j (by omega) (by omega) (by omega)).trans (hf3.1 a j q), fun j q1 q2 => (hq9.2 59 j (by decide) (by decide) (by decide)).trans (hf3.2 j q1 q2)⟩
                                              have hrt := hq9.1
                                              rw [rtN_c hf3] at hrt
                                              refine jif_ne hF (off := 6) 241 (by decide +kernel) (by decide) (by decide) (fun h => absurd h (by decide)) (fun _ => ?_)
                                              refine jgoto hF (off := 19) 257 (by decide +kernel) (by decide) ?_
                                              refine jblk hF [(.iinc 14 1, 3)] (by decide +kernel) (pc' := 260) (lo' := [(14, (0, m + 1)), (16, (0, (((m3 35 89) * (many - d)) + (o * d)) + (e * many))), (0, (2, 35)), (1, (0, f)), (2, (0, first)), (3, (0, many)), (4, (0, st)), (5, (0, p)), (6, (0, h)), (7, (0, w)), (8, (0, L3)), (9, (0, O3)), (10, (0, C3)), (11, (0, Q3)), (12, (0, o)), (13, (0, e)), (15, (0, d))]) (st' := []) rfl ?_
                                              refine jgoto hF (off := (-124)) 136 (by decide +kernel) (by decide) ?_
                                              refine jsub [2, 3, 4, 5, 6, 7, 8, 9, 10, 11, 12, 13, 14, 15, 0] rfl ?_
                                              refine ih_30 L3 O3 C3 Q3 (m + 1) m_39 ?_ ?_ ?_ ?_ ?_ ?_
                                              · omega
                                              · exact hR_m_39
                                              · first | exact hf4 | exact hf3
                                              · rw [bsM_s (by omega), ← hS3]; unfold bsS; first | (rw [if_pos (by show L3 ≠ -1 ∧ L3 ≤ _; omega)]; done) | (rw [if_neg (by show ¬ (L3 ≠ -1 ∧ L3 ≤ _); omega)]; first | (rw [if_pos (hrt.mp trivial), ← hco]; done) | (rw [if_pos (hrt.mp trivial), ← hco]) | (rw [if_neg (fun q8 => hrt.mpr q8)]; done))
                                              · omega
                                              · omega
                                          · refine jblk hF [(.iload 16, 2), (.iload 8, 2)] (by decide +kernel) (pc' := 213) (lo' := [(16, (0, (((m3 35 89) * (many - d)) + (o * d)) + (e * many))), (0, (2, 35)), (1, (0, f)), (2, (0, first)), (3, (0, many)), (4, (0, st)), (5, (0, p)), (6, (0, h)), (7, (0, w)), (8, (0, L3)), (9, (0, O3)), (10, (0, C3)), (11, (0, Q3)), (12, (0, o)), (13, (0, e)), (14, (0, m)), (15, (0, d))]) (st' := [(0, L3), (0, (((m3 35 89) * (many - d)) + (o * d)) + (e * many))]) rfl ?_
                                            refine jicmp_ge hF (off := 44) 257 (by decide +kernel) (by decide) (by omega) (by omega) (fun h_43 => ?_) (fun h_43 => ?_)
                                            · refine jblk hF [(.iinc 14 1, 3)] (by decide +kernel) (pc' := 260) (lo' := [(14, (0, m + 1)), (16, (0, (((m3 35 89) * (many - d)) + (o * d)) + (e * many))), (0, (2, 35)), (1, (0, f)), (2, (0, first)), (3, (0, many)), (4, (0, st)), (5, (0, p)), (6, (0, h)), (7, (0, w)), (8, (0, L3)), (9, (0, O3)), (10, (0, C3)), (11, (0, Q3)), (12, (0, o)), (13, (0, e)), (15, (0, d))]) (st' := []) rfl ?_
                                              refine jgoto hF (off := (-124)) 136 (by decide +kernel) (by decide) ?_
                                              refine jsub [2, 3, 4, 5, 6, 7, 8, 9, 10, 11, 12, 13, 14, 15, 0] rfl ?_
                                              refine ih_30 L3 O3 C3 Q3 (m + 1) m3 ?_ ?_ ?_ ?_ ?_ ?_
                                              · omega
                                              · exact hR_m3
                                              · first | exact hf4 | exact hf3
                                              · rw [bsM_s (by omega), ← hS3]; unfold bsS; first | (rw [if_pos (by show L3 ≠ -1 ∧ L3 ≤ _; omega)]; done) | (rw [if_neg (by show ¬ (L3 ≠ -1 ∧ L3 ≤ _); omega)]; first | (rw [if_pos (hrt.mp trivial), ← hco]; done) | (rw [if_pos (hrt.mp trivial), ← hco]) | (rw [if_neg (fun q8 => hrt.mpr q8)]; done))
                                              · omega
                                              · omega
                                            · have hAx : MKA m3 f first st many o (p + e) m := ⟨by unfold FN; rw [hf3.1 36 f (by decide), hf3.1 37 f (by decide), hf3.1 38 f (by decide)]; exact hFf, by omega, by omega, by omega, by omega, by omega, by omega, by omega, by omega, by omega, by omega, by omega, by omega⟩
                                              refine jblk hF [(.aload_n 0, 1), (.iload_n 1, 1), (.iload_n 2, 1), (.iload 4, 2), (.iload_n 3, 1), (.iload 12, 2), (.iload 5, 2), (.iload 13, 2), (.iload 14, 2), (.iload 6, 2)] (by decide +kernel) (pc' := 232) (lo' := [(16, (0, (((m3 35 89) * (many - d)) + (o * d)) + (e * many))), (0, (2, 35)), (1, (0, f)), (2, (0, first)), (3, (0, many)), (4, (0, st)), (5, (0, p)), (6, (0, h)), (7, (0, w)), (8, (0, L3)), (9, (0, O3)), (10, (0, C3)), (11, (0, Q3)), (12, (0, o)), (13, (0, e)), (14, (0, m)), (15, (0, d))]) (st' := [(0, h), (0, m), (0, e), (0, p), (0, o), (0, many), (0, st), (0, first), (0, f), (2, 35)]) rfl ?_
                                              refine jcallV hF (c_X12_isRight hG hS hR_m3 f first st many o p e m h (by exact hAx) (by omega) (by exact hf3.2)) MW_X12_isRight 13 (by decide) (by exact hS.k35) wd_2245 wd_2247 wd_p102 (by decide +kernel) [] rfl rfl (by decide) (Nat.le_of_ble_eq_true rfl) (by decide) (kMB (fun m_44 h_45 => ?_) (fun m_44 h_45 => ?_))
                                              · obtain ⟨hR_m_44, h_45⟩ := h_45
                                                have hq9 := h_45
                                                have hf4 : F59 mem m_44 := ⟨fun a j q => (hq9.2 a j (by omega) (by omega) (by omega)).trans (hf3.1 a j q), fun j q1 q2 => (hq9.2 59 j (by decide) (by decide) (by decide)).trans (hf3.2 j q1 q2)⟩
                                                have hrt := hq9.1
                                                rw [rtN_c hf3] at hrt
                                                refine jif_ne hF (off := 6) 241 (by decide +kernel) (by decide) (by decide) (fun _ => ?_) (fun h => absurd h (by decide))
                                                refine jblk hF [(.iload 16, 2), (.istore 8, 2), (.iload 12, 2), (.istore 9, 2), (.iload 13, 2), (.istore 10, 2), (.iload 14, 2), (.istore 11, 2), (.iinc 14 1, 3)] (by decide +kernel) (pc' := 260) (lo' := [(14, (0, m + 1)), (11, (0, m)), (10, (0, e)), (9, (0, o)), (8, (0, (((m3 35 89) * (many - d)) + (o * d)) + (e * many))), (16, (0, (((m3 35 89) * (many - d)) + (o * d)) + (e * many))), (0, (2, 35)), (1, (0, f)), (2, (0, first)), (3, (0, many)), (4, (0, st)), (5, (0, p)), (6, (0, h)), (7, (0, w)), (12, (0, o)), (13, (0, e)), (15, (0, d))]) (st' := []) rfl ?_
                                                refine jgoto hF (off := (-124)) 136 (by decide +kernel) (by decide) ?_
                                                refine jsub [6, 7, 8, 9, 10, 11, 12, 13, 4, 3, 2, 1, 14, 15, 0] rfl ?_
                                                refine ih_30 ((((m3 35 89) * (many - d)) + (o * d)) + (e * many)) o e m (m + 1) m_44 ?_ ?_ ?_ ?_ ?_ ?_
                                                · omega
                                                · exact hR_m_44
                                                · first | exact hf4 | exact hf3
                                                · rw [bsM_s (by omega), ← hS3]; unfold bsS; first | (rw [if_pos (by show L3 ≠ -1 ∧ L3 ≤ _; omega)]; done) | (rw [if_neg (by show ¬ (L3 ≠ -1 ∧ L3 ≤ _); omega)]; first | (rw [if_pos (hrt.mp trivial), ← hco]; done) | (rw [if_pos (hrt.mp trivial), ← hco]) | (rw [if_neg (fun q8 => hrt.mpr q8)]; done))
                                                · omega
                                                · omega
                                              · obtain ⟨hR_m_44, h_45⟩ := h_45
                                                have hq9 := h_45
                                                have hf4 : F59 mem m_44 := ⟨fun a j q => (hq9.2 a j (by omega) (by omega) (by omega)).trans (hf3.1 a j q), fun j q1 q2 => (hq9.2 59 j (by decide) (by decide) (by decide)).trans (hf3.2 j q1 q2)⟩
                                                have hrt := hq9.1
                                                rw [rtN_c hf3] at hrt
                                                refine jif_ne hF (off := 6) 241 (by decide +kernel) (by decide) (by decide) (fun h => absurd h (by decide)) (fun _ => ?_)
                                                refine jgoto hF (off := 19) 257 (by decide +kernel) (by decide) ?_
                                                refine jblk hF [(.iinc 14 1, 3)] (by decide +kernel) (pc' := 260) (lo' := [(14, (0, m + 1)), (16, (0, (((m3 35 89) * (many - d)) + (o * d)) + (e * many))), (0, (2, 35)), (1, (0, f)), (2, (0, first)), (3, (0, many)), (4, (0, st)), (5, (0, p)), (6, (0, h)), (7, (0, w)), (8, (0, L3)), (9, (0, O3)), (10, (0, C3)), (11, (0, Q3)), (12, (0, o)), (13, (0, e)), (15, (0, d))]) (st' := []) rfl ?_
                                                refine jgoto hF (off := (-124)) 136 (by decide +kernel) (by decide) ?_
                                                refine jsub [2, 3, 4, 5, 6, 7, 8, 9, 10, 11, 12, 13, 14, 15, 0] rfl ?_
                                                refine ih_30 L3 O3 C3 Q3 (m + 1) m_44 ?_ ?_ ?_ ?_ ?_ ?_
                                                · omega
                                                · exact hR_m_44
                                                · first | exact hf4 | exact hf3
                                                · rw [bsM_s (by omega), ← hS3]; unfold bsS; first | (rw [if_pos (by show L3 ≠ -1 ∧ L3 ≤ _; omega)]; done) | (rw [if_neg (by show ¬ (L3 ≠ -1 ∧ L3 ≤ _); omega)]; first | (rw [if_pos (hrt.mp trivial), ← hco]; done) | (rw [if_pos (hrt.mp trivial), ← hco]) | (rw [if_neg (fun q8 => hrt.mpr q8)]; done))
                                                · omega
                                                · omega
                                        · have hq5 := emod_bd n m (by omega) (by omega)
                                          refine jblk hF [(.iload 15, 2), (.iload 16, 2), (.iload 14, 2)] (by decide +kernel) (pc' := 161) (lo' := [(0, (2, 35)), (1, (0, f)), (2, (0, first)), (3, (0, many)), (4, (0, st)), (5, (0, p)), (6, (0, h)), (7, (0, w)), (8, (0, L3)), (9, (0, O3)), (10, (0, C3)), (11, (0, Q3)), (12, (0, o)), (13, (0, e)), (14, (0, m)), (15, (0, d)), (16, (0, n))]) (st' := [(0, m), (0, n), (0, d)]) rfl ?_
                                          refine jiremN hF (by decide +kernel) (by omega) (by omega) ?_
                                          refine jblk hF [(.iload 12, 2)] (by decide +kernel) (pc' := 164) (lo' := [(0, (2, 35)), (1, (0, f)), (2, (0, first)), (3, (0, many)), (4, (0, st)), (5, (0, p)), (6, (0, h)), (7, (0, w)), (8, (0, L3)), (9, (0, O3)), (10, (0, C3)), (11, (0, Q3)), (12, (0, o)), (13, (0, e)), (14, (0, m)), (15, (0, d)), (16, (0, n))]) (st' := [(0, o), (0, n % m), (0, d)]) rfl ?_
                                          refine jicmp_le hF (off := 7) 171 (by decide +kernel) (by decide) (by omega) (by omega) (fun h_48 => ?_) (fun h_48 => ?_)
                                          · refine jblk hF [(.iconst 0, 1), (.iadd, 1), (.istore 15, 2), (.iinc 16 1, 3)] (by decide +kernel) (pc' := 178) (lo' := [(16, (0, n + 1)), (15, (0, d + 0)), (0, (2, 35)), (1, (0, f)), (2, (0, first)), (3, (0, many)), (4, (0, st)), (5, (0, p)), (6, (0, h)), (7, (0, w)), (8, (0, L3)), (9, (0, O3)), (10, (0, C3)), (11, (0, Q3)), (12, (0, o)), (13, (0, e)), (14, (0, m))]) (st' := []) rfl ?_
                                            refine jgoto hF (off := (-29)) 149 (by decide +kernel) (by decide) ?_
                                            refine jsub [2, 3, 4, 5, 6, 7, 8, 9, 10, 11, 12, 13, 14, 15, 16, 1, 0] rfl ?_
                                            refine ih_34 (d + 0) (n + 1) ?_ ?_ ?_
                                            · omega
                                            · rw [mdN_s (by omega)]; first | (rw [if_pos (by omega)]; omega) | (rw [if_neg (by omega)]; omega)
                                            · omega
                                          · refine jblk hF [(.iconst 1, 1)] (by decide +kernel) (pc' := 168) (lo' := [(0, (2, 35)), (1, (0, f)), (2, (0, first)), (3, (0, many)), (4, (0, st)), (5, (0, p)), (6, (0, h)), (7, (0, w)), (8, (0, L3)), (9, (0, O3)), (10, (0, C3)), (11, (0, Q3)), (12, (0, o)), (13, (0, e)), (14, (0, m)), (15, (0, d)), (16, (0, n))]) (st' := [(0, 1), (0, d)]) rfl ?_
                                            refine jgoto hF (off := 4) 172 (by decide +kernel) (by decide) ?_
                                            refine jblk hF [(.iadd, 1), (.istore 15, 2), (.iinc 16 1, 3)] (by decide +kernel) (pc' := 178) (lo' := [(16, (0, n + 1)), (15, (0, d + 1)), (0, (2, 35)), (1, (0, f)), (2, (0, first)), (3, (0, many)), (4, (0, st)), (5, (0, p)), (6, (0, h)), (7, (0, w)), (8, (0, L3)), (9, (0, O3)), (10, (0, C3)), (11, (0, Q3)), (12, (0, o)), (13, (0, e)), (14, (0, m))]) (st' := []) rfl ?_
                                            refine jgoto hF (off := (-29)) 149 (by decide +kernel) (by decide) ?_
                                            refine jsub [2, 3, 4, 5, 6, 7, 8, 9, 10, 11, 12, 13, 14, 15, 16, 1, 0] rfl ?_
                                            refine ih_34 (d + 1) (n + 1) ?_ ?_ ?_
                                            · omega
                                            · rw [mdN_s (by omega)]; first | (rw [if_pos (by omega)]; omega) | (rw [if_neg (by omega)]; omega)
                                            · omega
                                    refine jsub [2, 3, 4, 5, 6, 7, 8, 9, 10, 11, 12, 13, 14, 15, 16, 1, 0] rfl ?_
                                    refine L_35 _ 0 0 ?_ ?_ (Nat.lt_succ_self _)
                                    · omega
                                    · rfl
                              refine jsub [1, 2, 3, 4, 5, 6, 7, 8, 9, 10, 11, 12, 13, 14, 0] rfl ?_
                              refine L_31 _ L2 O2 C2 Q2 (o + 2) m2 ?_ ?_ ?_ ?_ ?_ (Nat.lt_succ_self _)
                              · omega
                              · exact hR_m2
                              · exact hf2
                              · rw [show (o + 2 - (o + 2)).toNat = 0 by omega]; exact hS2
                              · omega
                        refine jsub [1, 2, 3, 4, 5, 6, 7, 8, 9, 10, 11, 12, 13, 0] rfl ?_
                        refine L_27 _ L1 O1 C1 Q1 0 m1 ?_ ?_ ?_ ?_ ?_ (Nat.lt_succ_self _)
                        · omega
                        · exact hR_m1
                        · exact hf1
                        · exact hS1
                        · omega
                  refine jsub [5, 6, 7, 8, 9, 10, 11, 12, 4, 3, 2, 1, 0] rfl ?_
                  refine L_19 _ (-1) 0 0 0 1 m_16 ?_ ?_ ?_ ?_ ?_ (Nat.lt_succ_self _)
                  · omega
                  · exact hR_m_16
                  · exact ⟨fun a j q => hcl.1 a j (by omega), hcl.2⟩
                  · rfl
                  · omega
                · refine jblk hF [(.iconst (-1), 1)] (by decide +kernel) (pc' := 91) (lo' := [(0, (2, 35)), (1, (0, f)), (2, (0, first)), (3, (0, many)), (4, (0, st)), (5, (0, p)), (6, (0, h)), (7, (0, w))]) (st' := [(0, (-1))]) rfl ?_
                  refine jiret hF hr (by decide +kernel) ?_
                  exact lMR ⟨hR, by exact ⟨fun h => absurd h (by omega), fun _ => ⟨rfl, rfl⟩⟩⟩
              · refine jif_eq hF (off := 17) 90 (by decide +kernel) (by decide) (by decide) (fun _ => ?_) (fun h => absurd h (by decide))
                refine jblk hF [(.iconst (-1), 1)] (by decide +kernel) (pc' := 91) (lo' := [(0, (2, 35)), (1, (0, f)), (2, (0, first)), (3, (0, many)), (4, (0, st)), (5, (0, p)), (6, (0, h)), (7, (0, w))]) (st' := [(0, (-1))]) rfl ?_
                refine jiret hF hr (by decide +kernel) ?_
                exact lMR ⟨hR, by exact ⟨fun h => absurd h (by omega), fun _ => ⟨rfl, rfl⟩⟩⟩
            · refine jif_eq hF (off := 27) 90 (by decide +kernel) (by decide) (by decide) (fun _ => ?_) (fun h => absurd h (by decide))
              refine jblk hF [(.iconst (-1), 1)] (by decide +kernel) (pc' := 91) (lo' := [(0, (2, 35)), (1, (0, f)), (2, (0, first)), (3, (0, many)), (4, (0, st)), (5, (0, p)), (6, (0, h)), (7, (0, w))]) (st' := [(0, (-1))]) rfl ?_
              refine jiret hF hr (by decide +kernel) ?_
              exact lMR ⟨hR, by exact ⟨fun h => absurd h (by omega), fun _ => ⟨rfl, rfl⟩⟩⟩
          · refine jif_eq hF (off := 37) 90 (by decide +kernel) (by decide) (by decide) (fun _ => ?_) (fun h => absurd h (by decide))
            refine jblk hF [(.iconst (-1), 1)] (by decide +kernel) (pc' := 91) (lo' := [(0, (2, 35)), (1, (0, f)), (2, (0, first)), (3, (0, many)), (4, (0, st)), (5, (0, p)), (6, (0, h)), (7, (0, w))]) (st' := [(0, (-1))]) rfl ?_
            refine jiret hF hr (by decide +kernel) ?_
            exact lMR ⟨hR, by exact ⟨fun h => absurd h (by omega), fun _ => ⟨rfl, rfl⟩⟩⟩
        · refine jif_eq hF (off := 47) 90 (by decide +kernel) (by decide) (by decide) (fun _ => ?_) (fun h => absurd h (by decide))
          refine jblk hF [(.iconst (-1), 1)] (by decide +kernel) (pc' := 91) (lo' := [(0, (2, 35)), (1, (0, f)), (2, (0, first)), (3, (0, many)), (4, (0, st)), (5, (0, p)), (6, (0, h)), (7, (0, w))]) (st' := [(0, (-1))]) rfl ?_
          refine jiret hF hr (by decide +kernel) ?_
          exact lMR ⟨hR, by exact ⟨fun h => absurd h (by omega), fun _ => ⟨rfl, rfl⟩⟩⟩
      · refine jif_eq hF (off := 58) 90 (by decide +kernel) (by decide) (by decide) (fun _ => ?_) (fun h => absurd h (by decide))
        refine jblk hF [(.iconst (-1), 1)] (by decide +kernel) (pc' := 91) (lo' := [(0, (2, 35)), (1, (0, f)), (2, (0, first)), (3, (0, many)), (4, (0, st)), (5, (0, p)), (6, (0, h)), (7, (0, w))]) (st' := [(0, (-1))]) rfl ?_
        refine jiret hF hr (by decide +kernel) ?_
        exact lMR ⟨hR, by exact ⟨fun h => absurd h (by omega), fun _ => ⟨rfl, rfl⟩⟩⟩
    · refine jif_eq hF (off := 68) 90 (by decide +kernel) (by decide) (by decide) (fun _ => ?_) (fun h => absurd h (by decide))
      refine jblk hF [(.iconst (-1), 1)] (by decide +kernel) (pc' := 91) (lo' := [(0, (2, 35)), (1, (0, f)), (2, (0, first)), (3, (0, many)), (4, (0, st)), (5, (0, p)), (6, (0, h)), (7, (0, w))]) (st' := [(0, (-1))]) rfl ?_
      refine jiret hF hr (by decide +kernel) ?_
      exact lMR ⟨hR, by exact ⟨fun h => absurd h (by omega), fun _ => ⟨rfl, rfl⟩⟩⟩
  · refine jif_eq hF (off := 79) 90 (by decide +kernel) (by decide) (by decide) (fun _ => ?_) (fun h => absurd h (by decide))
    refine jblk hF [(.iconst (-1), 1)] (by decide +kernel) (pc' := 91) (lo' := [(0, (2, 35)), (1, (0, f)), (2, (0, first)), (3, (0, many)), (4, (0, st)), (5, (0, p)), (6, (0, h)), (7, (0, w))]) (st' := [(0, (-1))]) rfl ?_
    refine jiret hF hr (by decide +kernel) ?_
    exact lMR ⟨hR, by exact ⟨fun h => absurd h (by omega), fun _ => ⟨rfl, rfl⟩⟩⟩
end
