section
section
variable {kd : Int → Nat} {ln : Int → Int} {mem : Int → Int → Int} {sz : Nat} {tg : Int → Int}
/-- the tape is a text -/
theorem INV.ttx (h : INV kd ln mem sz tg) (hK : HK kd ln) (hR : HR mem) : TXT kd ln mem 5 6 (mem 39) (mem 35 11) := by
  have w := h.ptx
  have t := h.tap
  exact ⟨hK.k5, by decide, hR.r5_0, t.1, hK.k6, by decide, t.2.1, w.1, by rw [hK.l6]; exact w.2.1, by rw [hK.l6]; exact Int.le_refl _, fun i q1 q2 => w.2.2 i q1 (by omega)⟩
theorem PLNV.ttx {t v : Int} (h : PLNV kd ln mem sz tg t v) : TXT kd ln mem v (mem v 0) (mem (mem v 0)) (mem v 1) := by
  obtain ⟨h1, h2, ⟨g1, g2, g3, g4, g5, g6, -⟩, -⟩ := h
  exact ⟨h1, by have := h2.1; omega, rfl, rfl, g1, by have := g2.1; omega, rfl, g3, g4, g5, g6⟩
theorem slB_bd (mem : Int → Int → Int) (p n : Int) : ∀ k : Nat, slB mem p n k = 0 ∨ slB mem p n k = 1 := by
  intro k
  induction k with
  | zero => exact Or.inl rfl
  | succ k ih => unfold slB; split <;> omega
end
set_option maxHeartbeats 4000000 in
set_option maxRecDepth 100000 in
theorem c_X11_fault {l : Launch} {g : GP} (hG : GH g) {kd : Int → Nat} {ln : Int → Int} {mem : Int → Int → Int} {sz : Nat} (hK : HK kd ln) (hR : HR mem) (tg : Int → Int) (hI : INV kd ln mem sz tg) : MT l g yX11_fault cX11_fault 1 (some .int) 28 0 0 [(2, 3)] kd ln mem sz (pMR 0 (fun v mem' => HR mem' ∧ (v = (fauP (mem 39) (mem 35 11)).1 ∧ (∀ b j : Int, b ≠ 7 → mem' b j = mem b j) ∧ EB mem')) kd ln sz) := by
  refine MT_of hG (by decide +kernel) (Nat.le_of_ble_eq_true rfl) (fun z hF hr hn => ?_)
  obtain ⟨⟨q0, q1, q2, q3, q4, q5⟩, u0, u2, u46, u89, usz⟩ := hI.num
  have htx := hI.ttx hK hR
  have heb := hI.1.2.2.2.2.2
  refine jblk hF [(.aload_n 0, 1)] (by decide +kernel) (pc' := 1) (lo' := [(0, (2, 3))]) (st' := [(2, 3)]) rfl ?_
  refine jget hF 12 8 2 8 rfl (by decide) (by decide) rfl wd_334 (by decide +kernel) (by exact hK.k3) ?_
  rw [HR.r3_8 hR]
  refine jblk hF [(.aload_n 0, 1)] (by decide +kernel) (pc' := 5) (lo' := [(0, (2, 3))]) (st' := [(2, 3), (2, 7)]) rfl ?_
  refine jget hF 12 7 2 7 rfl (by decide) (by decide) rfl wd_333 (by decide +kernel) (by exact hK.k3) ?_
  rw [HR.r3_7 hR]
  refine jcallV hF (c_X5_faultIn hG 5 (by exact hK.k7) (by exact 6) (by exact mem 39) (by exact mem 35 11) (by exact htx) (by exact heb)) MW_X5_faultIn 6 (by decide) (by exact hK.k7) wd_576 wd_577 wd_578 (by decide +kernel) [] rfl rfl (by decide) (Nat.le_of_ble_eq_true rfl) (by decide) (kMR (fun v_3 m_1 h_2 => ?_))
  have hf := h_2
  have hR_m_1 : HR m_1 := HR.of hR (fun a k u => hf.2.1 a k (by omega))
  refine jiret hF hr (by decide +kernel) ?_
  exact lMR ⟨hR_m_1, by exact hf⟩
set_option maxHeartbeats 4000000 in
set_option maxRecDepth 100000 in
theorem c_X11_worth {l : Launch} {g : GP} (hG : GH g) {kd : Int → Nat} {ln : Int → Int} {mem : Int → Int → Int} {sz : Nat} (hK : HK kd ln) (hR : HR mem) (t lab n b x : Int) (tg : Int → Int) (hI : INV kd ln mem sz tg) (hok : (0 ≤ t ∧ t ≤ mem 35 16 - 1) ∧ isLb lab) (h_t : InI t) (h_lab : InI lab) (h_n : InI n) (h_b : InI b) (h_x : InI x) : MT l g yX11_worth cX11_worth 7 (some .int) 28 0 0 [(2, 3), (0, t), (0, lab), (0, n), (0, b), (0, x)] kd ln mem sz (pMR 0 (fun v mem' => HR mem' ∧ (v = worV (tTT mem t) (tLL mem t) (envF n b x) lab ∧ (∀ b j : Int, b ≠ 7 → mem' b j = mem b j) ∧ EB mem')) kd ln sz) := by
  refine MT_of hG (by decide +kernel) (Nat.le_of_ble_eq_true rfl) (fun z hF hr hn => ?_)
  obtain ⟨⟨q0, q1, q2, q3, q4, q5⟩, u0, u2, u46, u89, usz⟩ := hI.num
  have n28 : 0 ≤ mem 35 16 ∧ mem 35 16 ≤ 12 := ⟨hI.pls.1, hI.pls.2⟩
  obtain ⟨e28, k28, r28, b28, c28⟩ := hI.g28.ls
  have heb := hI.1.2.2.2.2.2
  refine jblk hF [(.aload_n 0, 1), (.iload_n 1, 1)] (by decide +kernel) (pc' := 2) (lo' := [(0, (2, 3)), (1, (0, t)), (2, (0, lab)), (3, (0, n)), (4, (0, b)), (5, (0, x))]) (st' := [(0, t), (2, 3)]) rfl ?_
  refine jcallV hF (c_X11_planAt hG hK hR t (by exact tg) (by assumption) (by omega)) MW_X11_planAt 12 (by decide) (by exact hK.k3) wd_684 wd_686 wd_p20 (by decide +kernel) [] rfl rfl (by decide) (Nat.le_of_ble_eq_true rfl) (by decide) (kR (fun v_1 h_2 => ?_))
  have hv := h_2
  refine jblk hF [(.astore 6, 2), (.aload 6, 2)] (by decide +kernel) (pc' := 9) (lo' := [(6, (2, v_1)), (0, (2, 3)), (1, (0, t)), (2, (0, lab)), (3, (0, n)), (4, (0, b)), (5, (0, x))]) (st' := [(2, v_1)]) rfl ?_
  refine jnull hF (off := 10) 19 (by decide +kernel) (by decide) (fun h_3 => ?_) (fun h_3 => ?_)
  · exfalso; first | (have := (hv.2 (by omega)).1; omega) | exact absurd hok.2 (by assumption)
  · obtain ⟨hpg, hpo⟩ := hv.1 (by omega)
    have hko := hpo.1
    have htx := hpo.ttx
    have hfa := hpo.2.2.1.2.2.2.2.2.2.1
    have evt : v_1 = mem (mem 28 1) t := hpo.2.2.2
    refine jblk hF [(.iload_n 2, 1)] (by decide +kernel) (pc' := 13) (lo' := [(6, (2, v_1)), (0, (2, 3)), (1, (0, t)), (2, (0, lab)), (3, (0, n)), (4, (0, b)), (5, (0, x))]) (st' := [(0, lab)]) rfl ?_
    refine jcallS hF (c_X11_isLabelO hG lab (by omega)) MW_X11_isLabel wd_1341 wd_585 (by decide +kernel) [] rfl rfl (by decide) (Nat.le_of_ble_eq_true rfl) (by decide) (kB (fun h_4 => ?_) (fun h_4 => ?_))
    · refine jif_ne hF (off := 11) 27 (by decide +kernel) (by decide) (by decide) (fun _ => ?_) (fun h => absurd h (by decide))
      refine jblk hF [(.aload_n 0, 1)] (by decide +kernel) (pc' := 28) (lo' := [(6, (2, v_1)), (0, (2, 3)), (1, (0, t)), (2, (0, lab)), (3, (0, n)), (4, (0, b)), (5, (0, x))]) (st' := [(2, 3)]) rfl ?_
      refine jget hF 12 8 2 8 rfl (by decide) (by decide) rfl wd_334 (by decide +kernel) (by exact hK.k3) ?_
      rw [HR.r3_8 hR]
      refine jblk hF [(.aload 6, 2), (.iload_n 2, 1), (.iload_n 3, 1), (.iload 4, 2), (.iload 5, 2)] (by decide +kernel) (pc' := 39) (lo' := [(6, (2, v_1)), (0, (2, 3)), (1, (0, t)), (2, (0, lab)), (3, (0, n)), (4, (0, b)), (5, (0, x))]) (st' := [(0, x), (0, b), (0, n), (0, lab), (2, v_1), (2, 7)]) rfl ?_
      refine jcallV hF (c_X5_worthOf hG v_1 lab n b x (by exact hK.k7) (by exact mem v_1 0) (by exact mem (mem v_1 0)) (by exact mem v_1 1) (by exact htx) (by exact heb) (by exact hfa) (by omega) (by omega) (by omega) (by omega)) MW_X5_worthOf 6 (by decide) (by exact hK.k7) wd_1403 wd_773 wd_774 (by decide +kernel) [] rfl rfl (by decide) (Nat.le_of_ble_eq_true rfl) (by decide) (kMR (fun v_8 m_6 h_7 => ?_))
      have hf := h_7
      have hR_m_6 : HR m_6 := HR.of hR (fun a k u => hf.2.1 a k (by omega))
      refine jiret hF hr (by decide +kernel) ?_
      exact lMR ⟨hR_m_6, by exact ⟨by rw [hf.1, evt]; rfl, hf.2⟩⟩
    · refine jif_ne hF (off := 11) 27 (by decide +kernel) (by decide) (by decide) (fun h => absurd h (by decide)) (fun _ => ?_)
      exfalso; first | (have := (hv.2 (by omega)).1; omega) | exact absurd hok.2 (by assumption)
set_option maxHeartbeats 4000000 in
set_option maxRecDepth 100000 in
theorem c_X11_rate {l : Launch} {g : GP} (hG : GH g) {kd : Int → Nat} {ln : Int → Int} {mem : Int → Int → Int} {sz : Nat} (hK : HK kd ln) (hR : HR mem) (h : Int) (tg : Int → Int) (hI : INV kd ln mem sz tg) (h_h : InI h) : MT l g yX11_rate cX11_rate 7 (some .int) 3 0 0 [(2, 3), (0, h)] kd ln mem sz (pV (0, rateV mem h) kd ln mem sz) := by
  refine MT_of hG (by decide +kernel) (Nat.le_of_ble_eq_true rfl) (fun z hF hr hn => ?_)
  obtain ⟨⟨q0, q1, q2, q3, q4, q5⟩, u0, u2, u46, u89, usz⟩ := hI.num
  have n29 : 0 ≤ mem 35 33 ∧ mem 35 33 ≤ 12 := ⟨hI.pgs.1, hI.pgs.2.1⟩
  obtain ⟨e29, k29, r29, b29, c29⟩ := hI.g29.ls
  have hgz := hI.pgs
  refine jblk hF [(.iload_n 1, 1)] (by decide +kernel) (pc' := 1) (lo' := [(0, (2, 3)), (1, (0, h))]) (st' := [(0, h)]) rfl ?_
  refine jcallS hF (c_X11_isHand hG h (by omega)) MW_X11_isHand wd_1090 wd_794 (by decide +kernel) [] rfl rfl (by decide) (Nat.le_of_ble_eq_true rfl) (by decide) (kB (fun h_1 => ?_) (fun h_1 => ?_))
  · refine jif_ne hF (off := 5) 9 (by decide +kernel) (by decide) (by decide) (fun _ => ?_) (fun h => absurd h (by decide))
    refine jblk hF [(.iconst 0, 1), (.istore_n 2, 1), (.iconst 0, 1), (.istore_n 3, 1), (.iconst 0, 1), (.istore 4, 2)] (by decide +kernel) (pc' := 16) (lo' := [(4, (0, 0)), (3, (0, 0)), (2, (0, 0)), (0, (2, 3)), (1, (0, h))]) (st' := []) rfl ?_
    have L_4 : ∀ (fu_5 : Nat) (a : Int) (b : Int) (i : Int), (0 ≤ i ∧ i ≤ mem 35 33) → (a = alA mem h i.toNat) → (b = baA mem h i.toNat) →  (mem 35 33 - i).toNat < fu_5 → J z g 7 0 0 (QM z g 0 0 (pV (0, rateV mem h) kd ln mem sz)) 16 [(0, (2, 3)), (1, (0, h)), (2, (0, a)), (3, (0, b)), (4, (0, i))] [] kd ln mem sz := by
      intro fu_5
      induction fu_5 with
      | zero => intro a b i _ _ _ hm; omega
      | succ fu_5 ih_3 =>
        intro a b i hi ha hb hm
        have halo := alA_bd h hgz i.toNat (by omega)
        refine jblk hF [(.iload 4, 2), (.aload_n 0, 1)] (by decide +kernel) (pc' := 19) (lo' := [(0, (2, 3)), (1, (0, h)), (2, (0, a)), (3, (0, b)), (4, (0, i))]) (st' := [(2, 3), (0, i)]) rfl ?_
        refine jget hF 12 14 2 14 rfl (by decide) (by decide) rfl wd_340 (by decide +kernel) (by exact hK.k3) ?_
        rw [HR.r3_14 hR]
        refine jcallV hF (c_Jx4a65c_size_8abf5 hG 29 (by first | assumption | omega)) MW_Jx4a65c_size_8abf5 0 (by decide) (by exact hK.k29) wd_410 wd_411 wd_412 (by decide +kernel) [(0, i)] rfl rfl (by decide) (Nat.le_of_ble_eq_true rfl) (by decide) (kV ?_)
        rw [e29]
        refine jicmp_ge hF (off := 78) 103 (by decide +kernel) (by decide) (by omega) (by omega) (fun h_6 => ?_) (fun h_6 => ?_)
        · refine jblk hF [(.iload_n 2, 1)] (by decide +kernel) (pc' := 104) (lo' := [(0, (2, 3)), (1, (0, h)), (2, (0, a)), (3, (0, b)), (4, (0, i))]) (st' := [(0, a)]) rfl ?_
          refine jif_ne hF (off := 7) 111 (by decide +kernel) (by decide) (by omega) (fun h_7 => ?_) (fun h_7 => ?_)
          · refine jblk hF [(.iload_n 3, 1), (.sipush 1000, 3), (.imul, 1), (.iload_n 2, 1)] (by decide +kernel) (pc' := 117) (lo' := [(0, (2, 3)), (1, (0, h)), (2, (0, a)), (3, (0, b)), (4, (0, i))]) (st' := [(0, a), (0, b * 1000)]) rfl ?_
            refine jidivN hF (by decide +kernel) (by omega) (by omega) ?_
            refine jiret hF hr (by decide +kernel) ?_
            exact lV (by (have hie : i = mem 35 33 := (by omega); rw [hie] at ha hb; unfold rateV; rw [if_pos (by omega), ← ha]; first | rw [if_pos (by omega)] | (rw [if_neg (by omega), ← hb, Int.mul_comm])))
          · refine jblk hF [(.iconst 0, 1)] (by decide +kernel) (pc' := 108) (lo' := [(0, (2, 3)), (1, (0, h)), (2, (0, a)), (3, (0, b)), (4, (0, i))]) (st' := [(0, 0)]) rfl ?_
            refine jgoto hF (off := 10) 118 (by decide +kernel) (by decide) ?_
            refine jiret hF hr (by decide +kernel) ?_
            exact lV (by (have hie : i = mem 35 33 := (by omega); rw [hie] at ha hb; unfold rateV; rw [if_pos (by omega), ← ha]; first | rw [if_pos (by omega)] | (rw [if_neg (by omega), ← hb, Int.mul_comm])))
        · refine jblk hF [(.aload_n 0, 1)] (by decide +kernel) (pc' := 29) (lo' := [(0, (2, 3)), (1, (0, h)), (2, (0, a)), (3, (0, b)), (4, (0, i))]) (st' := [(2, 3)]) rfl ?_
          refine jget hF 12 14 2 14 rfl (by decide) (by decide) rfl wd_340 (by decide +kernel) (by exact hK.k3) ?_
          rw [HR.r3_14 hR]
          refine jblk hF [(.iload 4, 2)] (by decide +kernel) (pc' := 34) (lo' := [(0, (2, 3)), (1, (0, h)), (2, (0, a)), (3, (0, b)), (4, (0, i))]) (st' := [(0, i), (2, 29)]) rfl ?_
          refine jcallV hF (c_Jx4a65c_get_915e3 hG 29 i (by first | assumption | omega) (by first | assumption | omega) (by omega)) MW_Jx4a65c_get_915e3 0 (by decide) (by exact hK.k29) wd_498 wd_499 wd_500 (by decide +kernel) [] rfl rfl (by decide) (Nat.le_of_ble_eq_true rfl) (by decide) (kV ?_)
          obtain ⟨pp, hpp⟩ : ∃ y : Int, y = mem (mem 29 1) i := ⟨_, rfl⟩
          have hob := hI.pag (p := i) (by omega) (by omega)
          rw [← hpp] at hob
          rw [← hpp]
          have hk := hob.at
          have hpb := hob.pb
          have hgn := hob.nm
          have hn2 := hgn.2.2.1
          have hn4 := hgn.2.2.2.2.1
          have hn7 := hgn.2.2.2.2.2.2.2.1
          have hr9 := hob.r4 (k := 9) (by decide) (by decide)
          have hr16 := hob.row 16 (by decide)
          refine jcast hF 4 (by decide) wd_688 (by decide +kernel) (by first | exact hk.1 | exact hr9.1 | exact hr16.1 | assumption | omega) ?_
          refine jblk hF [(.astore 5, 2), (.iconst 0, 1), (.istore 6, 2)] (by decide +kernel) (pc' := 45) (lo' := [(6, (0, 0)), (5, (2, pp)), (0, (2, 3)), (1, (0, h)), (2, (0, a)), (3, (0, b)), (4, (0, i))]) (st' := []) rfl ?_
          have L_9 : ∀ (fu_10 : Nat) (c : Int) (d : Int) (n : Int), (0 ≤ n ∧ n ≤ mem 47 i) → (c = alA mem h i.toNat + alN mem h i n.toNat) → (d = baA mem h i.toNat + baN mem h i n.toNat) →  (mem 47 i - n).toNat < fu_10 → J z g 7 0 0 (QM z g 0 0 (pV (0, rateV mem h) kd ln mem sz)) 45 [(0, (2, 3)), (1, (0, h)), (2, (0, c)), (3, (0, d)), (4, (0, i)), (5, (2, pp)), (6, (0, n))] [] kd ln mem sz := by
            intro fu_10
            induction fu_10 with
            | zero => intro c d n _ _ _ hm; omega
            | succ fu_10 ih_8 =>
              intro c d n hnn hax hbx hm
              have hcb1 := alN_bd mem h i n.toNat
              refine jblk hF [(.iload 6, 2), (.aload 5, 2)] (by decide +kernel) (pc' := 49) (lo' := [(0, (2, 3)), (1, (0, h)), (2, (0, c)), (3, (0, d)), (4, (0, i)), (5, (2, pp)), (6, (0, n))]) (st' := [(2, pp), (0, n)]) rfl ?_
              refine jget hF 4 2 0 2 rfl (by decide) (by decide) rfl wd_697 (by decide +kernel) (by first | exact hk.1 | exact hr9.1 | exact hr16.1 | assumption | omega) ?_
              refine jicmp_ge hF (off := 45) 97 (by decide +kernel) (by decide) (by omega) (by omega) (fun h_11 => ?_) (fun h_11 => ?_)
              · refine jblk hF [(.iinc 4 1, 3)] (by decide +kernel) (pc' := 100) (lo' := [(4, (0, i + 1)), (0, (2, 3)), (1, (0, h)), (2, (0, c)), (3, (0, d)), (5, (2, pp)), (6, (0, n))]) (st' := []) rfl ?_
                refine jgoto hF (off := (-84)) 16 (by decide +kernel) (by decide) ?_
                refine jsub [1, 2, 3, 4, 0] rfl ?_
                refine ih_3 c d (i + 1) ?_ ?_ ?_ ?_
                · omega
                · (rw [alA_s (by omega), hax, show n = mem 47 i by omega])
                · (rw [baA_s (by omega), hbx, show n = mem 47 i by omega])
                · omega
              · refine jblk hF [(.aload 5, 2), (.iload 6, 2)] (by decide +kernel) (pc' := 59) (lo' := [(0, (2, 3)), (1, (0, h)), (2, (0, c)), (3, (0, d)), (4, (0, i)), (5, (2, pp)), (6, (0, n))]) (st' := [(0, n), (2, pp)]) rfl ?_
                refine jcallV hF (c_X3_isMade hG pp n (by first | assumption | omega) (by omega) (by assumption) (by omega)) MW_X3_isMade 4 (by decide) (by first | exact hk.1 | exact hr9.1 | exact hr16.1 | assumption | omega) wd_982 wd_890 wd_891 (by decide +kernel) [] rfl rfl (by decide) (Nat.le_of_ble_eq_true rfl) (by decide) (kB (fun h_12 => ?_) (fun h_12 => ?_))
                · have hmo : n % mem pp 7 = n % mem 52 i := by rw [hn7]
                  refine jif_eq hF (off := 29) 91 (by decide +kernel) (by decide) (by decide) (fun h => absurd h (by decide)) (fun _ => ?_)
                  refine jblk hF [(.aload 5, 2)] (by decide +kernel) (pc' := 67) (lo' := [(0, (2, 3)), (1, (0, h)), (2, (0, c)), (3, (0, d)), (4, (0, i)), (5, (2, pp)), (6, (0, n))]) (st' := [(2, pp)]) rfl ?_
                  refine jget hF 4 9 2 9 rfl (by decide) (by decide) rfl wd_711 (by decide +kernel) (by first | exact hk.1 | exact hr9.1 | exact hr16.1 | assumption | omega) ?_
                  have hlf := hob.2.1.2.2.1 n (by omega) (by omega)
                  have hlh := hI.lh i n (by omega) (by omega) (by omega) (by omega)
                  have hf1 := hlf.1
                  refine jblk hF [(.iload 6, 2)] (by decide +kernel) (pc' := 72) (lo' := [(0, (2, 3)), (1, (0, h)), (2, (0, c)), (3, (0, d)), (4, (0, i)), (5, (2, pp)), (6, (0, n))]) (st' := [(0, n), (2, mem pp 9)]) rfl ?_
                  refine jiald hF (by decide +kernel) (by first | exact hk.1 | exact hr9.1 | exact hr16.1 | assumption | omega) (by omega) (by omega) ?_
                  rw [hf1]
                  refine jblk hF [(.iload_n 1, 1)] (by decide +kernel) (pc' := 74) (lo' := [(0, (2, 3)), (1, (0, h)), (2, (0, c)), (3, (0, d)), (4, (0, i)), (5, (2, pp)), (6, (0, n))]) (st' := [(0, h), (0, mem 54 (40 * i + n))]) rfl ?_
                  refine jicmp_ne hF (off := 17) 91 (by decide +kernel) (by decide) (by omega) (by omega) (fun h_14 => ?_) (fun h_14 => ?_)
                  · refine jblk hF [(.iinc 6 1, 3)] (by decide +kernel) (pc' := 94) (lo' := [(6, (0, n + 1)), (0, (2, 3)), (1, (0, h)), (2, (0, c)), (3, (0, d)), (4, (0, i)), (5, (2, pp))]) (st' := []) rfl ?_
                    refine jgoto hF (off := (-49)) 45 (by decide +kernel) (by decide) ?_
                    refine jsub [1, 2, 3, 4, 5, 6, 0] rfl ?_
                    refine ih_8 c d (n + 1) ?_ ?_ ?_ ?_
                    · omega
                    · (rw [alN_s (by omega)]; first | (rw [if_pos ⟨by omega, by omega⟩]; omega) | (rw [if_neg (fun u => by omega)]; omega))
                    · (rw [baN_s (by omega)]; first | (rw [if_neg (fun u => by omega)]; omega) | (rcases hsb with hsb | hsb; (rw [if_neg (fun u => u.2.2 hsb)]; omega); (rw [if_pos ⟨by omega, by omega, by omega⟩]; omega)))
                    · omega
                  · refine jblk hF [(.iinc 2 1, 3), (.iload_n 3, 1), (.aload 5, 2)] (by decide +kernel) (pc' := 83) (lo' := [(2, (0, c + 1)), (0, (2, 3)), (1, (0, h)), (3, (0, d)), (4, (0, i)), (5, (2, pp)), (6, (0, n))]) (st' := [(2, pp), (0, d)]) rfl ?_
                    refine jget hF 4 16 2 16 rfl (by decide) (by decide) rfl wd_726 (by decide +kernel) (by first | exact hk.1 | exact hr9.1 | exact hr16.1 | assumption | omega) ?_
                    refine jblk hF [(.iload 6, 2)] (by decide +kernel) (pc' := 88) (lo' := [(2, (0, c + 1)), (0, (2, 3)), (1, (0, h)), (3, (0, d)), (4, (0, i)), (5, (2, pp)), (6, (0, n))]) (st' := [(0, n), (2, mem pp 16), (0, d)]) rfl ?_
                    refine jiald hF (by decide +kernel) (by first | exact hk.1 | exact hr9.1 | exact hr16.1 | assumption | omega) (by omega) (by omega) ?_
                    rw [hlf.2.2.2.2.2.2.2.2.1]
                    have hsb := slB_bd mem i n (mem 35 45).toNat
                    refine jblk hF [(.iadd, 1), (.istore_n 3, 1), (.iinc 6 1, 3)] (by decide +kernel) (pc' := 94) (lo' := [(6, (0, n + 1)), (3, (0, d + (slB mem i n (mem 35 45).toNat))), (2, (0, c + 1)), (0, (2, 3)), (1, (0, h)), (4, (0, i)), (5, (2, pp))]) (st' := []) rfl ?_
                    refine jgoto hF (off := (-49)) 45 (by decide +kernel) (by decide) ?_
                    refine jsub [3, 4, 2, 1, 5, 6, 0] rfl ?_
                    refine ih_8 (c + 1) (d + (slB mem i n (mem 35 45).toNat)) (n + 1) ?_ ?_ ?_ ?_
                    · omega
                    · (rw [alN_s (by omega)]; first | (rw [if_pos ⟨by omega, by omega⟩]; omega) | (rw [if_neg (fun u => by omega)]; omega))
                    · (rw [baN_s (by omega)]; first | (rw [if_neg (fun u => by omega)]; omega) | (rcases hsb with hsb | hsb; (rw [if_neg (fun u => u.2.2 hsb)]; omega); (rw [if_pos ⟨by omega, by omega, by omega⟩]; omega)))
                    · omega
                · have hmo : n % mem pp 7 = n % mem 52 i := by rw [hn7]
                  refine jif_eq hF (off := 29) 91 (by decide +kernel) (by decide) (by decide) (fun _ => ?_) (fun h => absurd h (by decide))
                  refine jblk hF [(.iinc 6 1, 3)] (by decide +kernel) (pc' := 94) (lo' := [(6, (0, n + 1)), (0, (2, 3)), (1, (0, h)), (2, (0, c)), (3, (0, d)), (4, (0, i)), (5, (2, pp))]) (st' := []) rfl ?_
                  refine jgoto hF (off := (-49)) 45 (by decide +kernel) (by decide) ?_
                  refine jsub [1, 2, 3, 4, 5, 6, 0] rfl ?_
                  refine ih_8 c d (n + 1) ?_ ?_ ?_ ?_
                  · omega
                  · (rw [alN_s (by omega)]; first | (rw [if_pos ⟨by omega, by omega⟩]; omega) | (rw [if_neg (fun u => by omega)]; omega))
                  · (rw [baN_s (by omega)]; first | (rw [if_neg (fun u => by omega)]; omega) | (rcases hsb with hsb | hsb; (rw [if_neg (fun u => u.2.2 hsb)]; omega); (rw [if_pos ⟨by omega, by omega, by omega⟩]; omega)))
                  · omega
          refine jsub [2, 3, 4, 5, 6, 1, 0] rfl ?_
          refine L_9 _ a b 0 ?_ ?_ ?_ (Nat.lt_succ_self _)
          · omega
          · (rw [ha]; exact (Int.add_zero _).symm)
          · (rw [hb]; exact (Int.add_zero _).symm)
    refine jsub [3, 4, 2, 1, 0] rfl ?_
    refine L_4 _ 0 0 0 ?_ ?_ ?_ (Nat.lt_succ_self _)
    · omega
    · rfl
    · rfl
  · refine jif_ne hF (off := 5) 9 (by decide +kernel) (by decide) (by decide) (fun h => absurd h (by decide)) (fun _ => ?_)
    refine jblk hF [(.iconst (-1), 1)] (by decide +kernel) (pc' := 8) (lo' := [(0, (2, 3)), (1, (0, h))]) (st' := [(0, (-1))]) rfl ?_
    refine jiret hF hr (by decide +kernel) ?_
    exact lV (by exact (if_neg (by omega)).symm)
end
