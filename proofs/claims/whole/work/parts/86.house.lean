section
theorem blk_eq {L m : Int} (hm : 0 < m) : (L - 1) / m + 1 = (L + m - 1) / m := by
  rw [show L + m - 1 = (L - 1) + m * 1 by omega, Int.add_mul_ediv_left _ _ (by omega)]
section
variable {kd : Int → Nat} {ln : Int → Int} {mem : Int → Int → Int} {sz : Nat} {tg : Int → Int}
theorem INV.tap (h : INV kd ln mem sz tg) : mem 5 1 = mem 35 11 ∧ mem 6 = mem 39 ∧ ∀ j : Int, j < 0 → mem 6 j = 0 := h.2.2.1.2.2
theorem INV.lft (h : INV kd ln mem sz tg) {x y : Int} (hx : 0 ≤ x ∧ x ≤ 7) (hy : 0 ≤ y ∧ y ≤ 7) : mem 4 (x * 8 + y) = leftV mem x y := h.2.2.1.2.1 x y hx.1 hx.2 hy.1 hy.2
theorem lsN_out {M : Int → Int → Int} {x y : Int} (hn : ¬ ((0 ≤ x ∧ x ≤ 7) ∧ 0 ≤ y ∧ y ≤ 7)) : ∀ k : Nat, (∀ s : Int, 0 ≤ s → s < k → 0 ≤ M 77 s ∧ M 77 s ≤ 7 ∧ 0 ≤ M 78 s ∧ M 78 s ≤ 7 ∧ M 77 s ≠ M 78 s) → lsN M x y k = -1 := by
  intro k
  induction k with
  | zero => intro _; rfl
  | succ k ih =>
    intro h
    have g := h k (by omega) (by omega)
    unfold lsN
    rw [if_neg (by omega)]
    exact ih (fun s q1 q2 => h s q1 (by omega))
theorem INV.lfo (h : INV kd ln mem sz tg) {x y : Int} (hn : ¬ ((0 ≤ x ∧ x ≤ 7) ∧ 0 ≤ y ∧ y ≤ 7)) : leftV mem x y = -1 := by
  have hd := h.dbs
  unfold leftV
  rw [lsN_out hn _ (fun s q1 q2 => h.dbh s q1 (by omega))]
  rfl
theorem PAGV.r4 {p v k : Int} (h : PAGV kd ln mem sz tg p v) (h1 : 9 ≤ k) (h2 : k ≤ 12) : kd (mem v k) = 20 ∧ ln (mem v k) = 40 ∧ 3 ≤ mem v k := by
  have w := h.row k ⟨h1, by omega, by omega⟩
  unfold kRow at w
  rw [if_neg (by omega)] at w
  exact ⟨w.1, w.2.1, by omega⟩
theorem PAGV.r8 {p v k : Int} (h : PAGV kd ln mem sz tg p v) (h1 : k = 13 ∨ k = 14 ∨ k = 15 ∨ k = 18) : kd (mem v k) = 21 ∧ ln (mem v k) = 40 ∧ 35 ≤ mem v k := by
  have w := h.row k ⟨by omega, by omega, by omega⟩
  unfold kRow at w
  rw [if_pos (by omega)] at w
  exact ⟨w.1, w.2.1, by omega⟩
theorem PAGV.bnd {p v : Int} (h : PAGV kd ln mem sz tg p v) (n : Int) : (if mem v 4 < n % mem v 7 then (bndN (n % mem v 7) (mem v 4) (mem v 4 + 1).toNat + 1) / 2 else 1) = boundV mem p n := by
  obtain ⟨g0, g1, g2, g3, g4, g5, g6, g7, g8⟩ := h.nm
  rw [g4, g7]
  rfl
end
set_option maxHeartbeats 4000000 in
set_option maxRecDepth 100000 in
theorem c_X11_exact {l : Launch} {g : GP} (hG : GH g) {kd : Int → Nat} {ln : Int → Int} {mem : Int → Int → Int} {sz : Nat} (hK : HK kd ln) (hR : HR mem) (f x p : Int) (tg : Int → Int) (hI : INV kd ln mem sz tg) (hTN : TNS g) (h_f : InI f) (h_x : InI x) (h_p : InI p) : MT l g yX11_exact cX11_exact 5 (some .long) 4 0 0 [(2, 3), (0, f), (0, x), (0, p)] kd ln mem sz (pV (1, exactA mem f x p) kd ln mem sz) := by
  refine MT_of hG (by decide +kernel) (Nat.le_of_ble_eq_true rfl) (fun z hF hr hn => ?_)
  obtain ⟨⟨q0, q1, q2, q3, q4, q5⟩, u0, u2, u46, u89, usz⟩ := hI.num
  have n27 : 0 ≤ mem 35 6 ∧ mem 35 6 ≤ 10 := ⟨hI.fns.1, hI.fns.2.1⟩
  obtain ⟨e27, k27, r27, b27, c27⟩ := hI.g27.ls
  refine jblk hF [(.aload_n 0, 1), (.iload_n 1, 1), (.iload_n 2, 1), (.iload_n 3, 1)] (by decide +kernel) (pc' := 4) (lo' := [(0, (2, 3)), (1, (0, f)), (2, (0, x)), (3, (0, p))]) (st' := [(0, p), (0, x), (0, f), (2, 3)]) rfl ?_
  refine jcallV hF (c_X11_curveAt hG hK hR f x p (by exact tg) (by assumption) (by omega) (by omega) (by omega)) MW_X11_curveAt 12 (by decide) (by exact hK.k3) wd_494 wd_496 wd_p5 (by decide +kernel) [] rfl rfl (by decide) (Nat.le_of_ble_eq_true rfl) (by decide) (kR (fun v_1 h_2 => ?_))
  have hv := h_2
  refine jblk hF [(.astore 4, 2), (.aload 4, 2)] (by decide +kernel) (pc' := 11) (lo' := [(4, (2, v_1)), (0, (2, 3)), (1, (0, f)), (2, (0, x)), (3, (0, p))]) (st' := [(2, v_1)]) rfl ?_
  refine jnonnull hF (off := 9) 20 (by decide +kernel) (by decide) (fun h_3 => ?_) (fun h_3 => ?_)
  · obtain ⟨hfa, hob⟩ := hv.1 (by omega)
    obtain ⟨o1, o2, o3, ⟨o4, o5, o6⟩, o7⟩ := hob
    have hqb := qV_bd (s := mem 36 f) (a := mem 37 f) (b := mem 38 f) (x := x) (by omega) (by omega)
    have hub := unit_bd (p := p) (by omega)
    refine jblk hF [(.aload 4, 2), (.iload_n 2, 1)] (by decide +kernel) (pc' := 23) (lo' := [(4, (2, v_1)), (0, (2, 3)), (1, (0, f)), (2, (0, x)), (3, (0, p))]) (st' := [(0, x), (2, v_1)]) rfl ?_
    refine jcallV hF (c_X0_quartersAt hG hK hR v_1 x (by omega) (by assumption) (by first | assumption | omega) (by omega) (by omega) (by omega)) MW_X0_quartersAt 1 (by decide) (by first | assumption | omega) wd_513 wd_514 wd_515 (by decide +kernel) [] rfl rfl (by decide) (Nat.le_of_ble_eq_true rfl) (by decide) (kV ?_)
    rw [o4, o5, o6]
    obtain ⟨qq, hqq⟩ : ∃ y : Int, y = qV (mem 36 f) (mem 37 f) (mem 38 f) x := ⟨_, rfl⟩
    rw [← hqq]
    rw [← hqq] at hqb
    refine jblk hF [(.iload_n 3, 1)] (by decide +kernel) (pc' := 27) (lo' := [(4, (2, v_1)), (0, (2, 3)), (1, (0, f)), (2, (0, x)), (3, (0, p))]) (st' := [(0, p), (1, qq)]) rfl ?_
    refine jcallS hF (c_X11_unitOf hG hK hR p (by assumption) (by omega)) MW_X11_unitOf wd_528 wd_529 (by decide +kernel) [(1, qq)] rfl rfl (by decide) (Nat.le_of_ble_eq_true rfl) (by decide) (kV ?_)
    obtain ⟨uu, huu⟩ : ∃ y : Int, y = 4 * (10 : Int) ^ (6 - p).toNat := ⟨_, rfl⟩
    rw [← huu]
    rw [← huu] at hub
    refine jcallS hF (c_X11_wholeBy hG qq uu (by omega) (by omega)) MW_X11_wholeBy wd_533 wd_534 (by decide +kernel) [] rfl rfl (by decide) (Nat.le_of_ble_eq_true rfl) (by decide) (kV ?_)
    refine jlret hF hr (by decide +kernel) ?_
    exact lV (by first | exact (if_neg hng).symm | (rw [show exactA mem f x p = exactV (mem 36 f) (mem 37 f) (mem 38 f) x p from if_pos hfa, hqq, huu]; exact qV_exact (by omega) (by omega)))
  · have hng := (hv.2 (by omega)).1
    refine jldc2 hF (-1) (cst_l wd_512 (by decide)) (by decide +kernel) ?_
    refine jgoto hF (off := 16) 33 (by decide +kernel) (by decide) ?_
    refine jlret hF hr (by decide +kernel) ?_
    exact lV (by first | exact (if_neg hng).symm | (rw [show exactA mem f x p = exactV (mem 36 f) (mem 37 f) (mem 38 f) x p from if_pos hfa, hqq, huu]; exact qV_exact (by omega) (by omega)))
set_option maxHeartbeats 4000000 in
set_option maxRecDepth 100000 in
theorem c_X11_nearest {l : Launch} {g : GP} (hG : GH g) {kd : Int → Nat} {ln : Int → Int} {mem : Int → Int → Int} {sz : Nat} (hK : HK kd ln) (hR : HR mem) (f x p : Int) (tg : Int → Int) (hI : INV kd ln mem sz tg) (hTN : TNS g) (h_f : InI f) (h_x : InI x) (h_p : InI p) : MT l g yX11_nearest cX11_nearest 5 (some .long) 4 0 0 [(2, 3), (0, f), (0, x), (0, p)] kd ln mem sz (pV (1, nearestA mem f x p) kd ln mem sz) := by
  refine MT_of hG (by decide +kernel) (Nat.le_of_ble_eq_true rfl) (fun z hF hr hn => ?_)
  obtain ⟨⟨q0, q1, q2, q3, q4, q5⟩, u0, u2, u46, u89, usz⟩ := hI.num
  have n27 : 0 ≤ mem 35 6 ∧ mem 35 6 ≤ 10 := ⟨hI.fns.1, hI.fns.2.1⟩
  obtain ⟨e27, k27, r27, b27, c27⟩ := hI.g27.ls
  refine jblk hF [(.aload_n 0, 1), (.iload_n 1, 1), (.iload_n 2, 1), (.iload_n 3, 1)] (by decide +kernel) (pc' := 4) (lo' := [(0, (2, 3)), (1, (0, f)), (2, (0, x)), (3, (0, p))]) (st' := [(0, p), (0, x), (0, f), (2, 3)]) rfl ?_
  refine jcallV hF (c_X11_curveAt hG hK hR f x p (by exact tg) (by assumption) (by omega) (by omega) (by omega)) MW_X11_curveAt 12 (by decide) (by exact hK.k3) wd_494 wd_496 wd_p5 (by decide +kernel) [] rfl rfl (by decide) (Nat.le_of_ble_eq_true rfl) (by decide) (kR (fun v_1 h_2 => ?_))
  have hv := h_2
  refine jblk hF [(.astore 4, 2), (.aload 4, 2)] (by decide +kernel) (pc' := 11) (lo' := [(4, (2, v_1)), (0, (2, 3)), (1, (0, f)), (2, (0, x)), (3, (0, p))]) (st' := [(2, v_1)]) rfl ?_
  refine jnonnull hF (off := 9) 20 (by decide +kernel) (by decide) (fun h_3 => ?_) (fun h_3 => ?_)
  · obtain ⟨hfa, hob⟩ := hv.1 (by omega)
    obtain ⟨o1, o2, o3, ⟨o4, o5, o6⟩, o7⟩ := hob
    have hqb := qV_bd (s := mem 36 f) (a := mem 37 f) (b := mem 38 f) (x := x) (by omega) (by omega)
    have hub := unit_bd (p := p) (by omega)
    refine jblk hF [(.aload 4, 2), (.iload_n 2, 1)] (by decide +kernel) (pc' := 23) (lo' := [(4, (2, v_1)), (0, (2, 3)), (1, (0, f)), (2, (0, x)), (3, (0, p))]) (st' := [(0, x), (2, v_1)]) rfl ?_
    refine jcallV hF (c_X0_quartersAt hG hK hR v_1 x (by omega) (by assumption) (by first | assumption | omega) (by omega) (by omega) (by omega)) MW_X0_quartersAt 1 (by decide) (by first | assumption | omega) wd_513 wd_514 wd_515 (by decide +kernel) [] rfl rfl (by decide) (Nat.le_of_ble_eq_true rfl) (by decide) (kV ?_)
    rw [o4, o5, o6]
    obtain ⟨qq, hqq⟩ : ∃ y : Int, y = qV (mem 36 f) (mem 37 f) (mem 38 f) x := ⟨_, rfl⟩
    rw [← hqq]
    rw [← hqq] at hqb
    refine jblk hF [(.iload_n 3, 1)] (by decide +kernel) (pc' := 27) (lo' := [(4, (2, v_1)), (0, (2, 3)), (1, (0, f)), (2, (0, x)), (3, (0, p))]) (st' := [(0, p), (1, qq)]) rfl ?_
    refine jcallS hF (c_X11_unitOf hG hK hR p (by assumption) (by omega)) MW_X11_unitOf wd_528 wd_529 (by decide +kernel) [(1, qq)] rfl rfl (by decide) (Nat.le_of_ble_eq_true rfl) (by decide) (kV ?_)
    obtain ⟨uu, huu⟩ : ∃ y : Int, y = 4 * (10 : Int) ^ (6 - p).toNat := ⟨_, rfl⟩
    rw [← huu]
    rw [← huu] at hub
    refine jblk hF [(.iconst 0, 1)] (by decide +kernel) (pc' := 31) (lo' := [(4, (2, v_1)), (0, (2, 3)), (1, (0, f)), (2, (0, x)), (3, (0, p))]) (st' := [(0, 0), (1, uu), (1, qq)]) rfl ?_
    refine jcallS hF (c_X11_rounded hG qq uu 0 (by omega) (by omega) (by omega)) MW_X11_rounded wd_553 wd_554 (by decide +kernel) [] rfl rfl (by decide) (Nat.le_of_ble_eq_true rfl) (by decide) (kV ?_)
    refine jlret hF hr (by decide +kernel) ?_
    exact lV (by first | exact (if_neg hng).symm | (rw [show nearestA mem f x p = nearV (mem 36 f) (mem 37 f) (mem 38 f) x p 0 from if_pos hfa, hqq, huu]; exact qV_near 0 (by omega) (by omega)))
  · have hng := (hv.2 (by omega)).1
    refine jldc2 hF (-1) (cst_l wd_512 (by decide)) (by decide +kernel) ?_
    refine jgoto hF (off := 17) 34 (by decide +kernel) (by decide) ?_
    refine jlret hF hr (by decide +kernel) ?_
    exact lV (by first | exact (if_neg hng).symm | (rw [show nearestA mem f x p = nearV (mem 36 f) (mem 37 f) (mem 38 f) x p 0 from if_pos hfa, hqq, huu]; exact qV_near 0 (by omega) (by omega)))
set_option maxHeartbeats 4000000 in
set_option maxRecDepth 100000 in
theorem c_X11_whole {l : Launch} {g : GP} (hG : GH g) {kd : Int → Nat} {ln : Int → Int} {mem : Int → Int → Int} {sz : Nat} (hK : HK kd ln) (hR : HR mem) (f x p : Int) (tg : Int → Int) (hI : INV kd ln mem sz tg) (hTN : TNS g) (h_f : InI f) (h_x : InI x) (h_p : InI p) : MT l g yX11_whole cX11_whole 5 (some .int) 4 0 0 [(2, 3), (0, f), (0, x), (0, p)] kd ln mem sz (pR 0 (fun v => (fnA mem f x p → (v = 1 ∧ wholeB mem f x p) ∨ (v = 0 ∧ ¬ wholeB mem f x p)) ∧ (¬ fnA mem f x p → v = -1)) kd ln mem sz) := by
  refine MT_of hG (by decide +kernel) (Nat.le_of_ble_eq_true rfl) (fun z hF hr hn => ?_)
  obtain ⟨⟨q0, q1, q2, q3, q4, q5⟩, u0, u2, u46, u89, usz⟩ := hI.num
  have n27 : 0 ≤ mem 35 6 ∧ mem 35 6 ≤ 10 := ⟨hI.fns.1, hI.fns.2.1⟩
  obtain ⟨e27, k27, r27, b27, c27⟩ := hI.g27.ls
  refine jblk hF [(.aload_n 0, 1), (.iload_n 1, 1), (.iload_n 2, 1), (.iload_n 3, 1)] (by decide +kernel) (pc' := 4) (lo' := [(0, (2, 3)), (1, (0, f)), (2, (0, x)), (3, (0, p))]) (st' := [(0, p), (0, x), (0, f), (2, 3)]) rfl ?_
  refine jcallV hF (c_X11_curveAt hG hK hR f x p (by exact tg) (by assumption) (by omega) (by omega) (by omega)) MW_X11_curveAt 12 (by decide) (by exact hK.k3) wd_494 wd_496 wd_p5 (by decide +kernel) [] rfl rfl (by decide) (Nat.le_of_ble_eq_true rfl) (by decide) (kR (fun v_1 h_2 => ?_))
  have hv := h_2
  refine jblk hF [(.astore 4, 2), (.aload 4, 2)] (by decide +kernel) (pc' := 11) (lo' := [(4, (2, v_1)), (0, (2, 3)), (1, (0, f)), (2, (0, x)), (3, (0, p))]) (st' := [(2, v_1)]) rfl ?_
  refine jnonnull hF (off := 5) 16 (by decide +kernel) (by decide) (fun h_3 => ?_) (fun h_3 => ?_)
  · obtain ⟨hfa, hob⟩ := hv.1 (by omega)
    obtain ⟨o1, o2, o3, ⟨o4, o5, o6⟩, o7⟩ := hob
    have hqb := qV_bd (s := mem 36 f) (a := mem 37 f) (b := mem 38 f) (x := x) (by omega) (by omega)
    have hub := unit_bd (p := p) (by omega)
    refine jblk hF [(.aload 4, 2), (.iload_n 2, 1)] (by decide +kernel) (pc' := 19) (lo' := [(4, (2, v_1)), (0, (2, 3)), (1, (0, f)), (2, (0, x)), (3, (0, p))]) (st' := [(0, x), (2, v_1)]) rfl ?_
    refine jcallV hF (c_X0_quartersAt hG hK hR v_1 x (by omega) (by assumption) (by first | assumption | omega) (by omega) (by omega) (by omega)) MW_X0_quartersAt 1 (by decide) (by first | assumption | omega) wd_513 wd_514 wd_515 (by decide +kernel) [] rfl rfl (by decide) (Nat.le_of_ble_eq_true rfl) (by decide) (kV ?_)
    rw [o4, o5, o6]
    obtain ⟨qq, hqq⟩ : ∃ y : Int, y = qV (mem 36 f) (mem 37 f) (mem 38 f) x := ⟨_, rfl⟩
    rw [← hqq]
    rw [← hqq] at hqb
    refine jblk hF [(.iload_n 3, 1)] (by decide +kernel) (pc' := 23) (lo' := [(4, (2, v_1)), (0, (2, 3)), (1, (0, f)), (2, (0, x)), (3, (0, p))]) (st' := [(0, p), (1, qq)]) rfl ?_
    refine jcallS hF (c_X11_unitOf hG hK hR p (by assumption) (by omega)) MW_X11_unitOf wd_528 wd_529 (by decide +kernel) [(1, qq)] rfl rfl (by decide) (Nat.le_of_ble_eq_true rfl) (by decide) (kV ?_)
    obtain ⟨uu, huu⟩ : ∃ y : Int, y = 4 * (10 : Int) ^ (6 - p).toNat := ⟨_, rfl⟩
    rw [← huu]
    rw [← huu] at hub
    refine jcallS hF (c_X11_restBy hG qq uu (by omega) (by omega)) MW_X11_restBy wd_543 wd_544 (by decide +kernel) [] rfl rfl (by decide) (Nat.le_of_ble_eq_true rfl) (by decide) (kV ?_)
    have hwb : qq % uu = 0 ↔ wholeB mem f x p := by rw [hqq, huu]; exact qV_mod (by omega) (by omega)
    have hmb := emod_bd2 qq uu (by omega)
    refine jlconst hF (n := 0) 0 rfl (by decide +kernel) ?_
    refine jlcmp_ne hF (off := 7) 38 (by decide +kernel) (by decide +kernel) (by decide) (by omega) (by decide) (fun h_4 => ?_) (fun h_4 => ?_)
    · refine jblk hF [(.iconst 0, 1)] (by decide +kernel) (pc' := 39) (lo' := [(4, (2, v_1)), (0, (2, 3)), (1, (0, f)), (2, (0, x)), (3, (0, p))]) (st' := [(0, 0)]) rfl ?_
      refine jiret hF hr (by decide +kernel) ?_
      exact lR (by first | exact ⟨fun _ => Or.inl ⟨rfl, hwb.mp (by omega)⟩, fun w => absurd hfa w⟩ | exact ⟨fun _ => Or.inr ⟨rfl, fun w => absurd (hwb.mpr w) (by omega)⟩, fun w => absurd hfa w⟩)
    · refine jblk hF [(.iconst 1, 1)] (by decide +kernel) (pc' := 35) (lo' := [(4, (2, v_1)), (0, (2, 3)), (1, (0, f)), (2, (0, x)), (3, (0, p))]) (st' := [(0, 1)]) rfl ?_
      refine jgoto hF (off := 4) 39 (by decide +kernel) (by decide) ?_
      refine jiret hF hr (by decide +kernel) ?_
      exact lR (by first | exact ⟨fun _ => Or.inl ⟨rfl, hwb.mp (by omega)⟩, fun w => absurd hfa w⟩ | exact ⟨fun _ => Or.inr ⟨rfl, fun w => absurd (hwb.mpr w) (by omega)⟩, fun w => absurd hfa w⟩)
  · have hng := (hv.2 (by omega)).1
    refine jblk hF [(.iconst (-1), 1)] (by decide +kernel) (pc' := 15) (lo' := [(4, (2, v_1)), (0, (2, 3)), (1, (0, f)), (2, (0, x)), (3, (0, p))]) (st' := [(0, (-1))]) rfl ?_
    refine jiret hF hr (by decide +kernel) ?_
    exact lR (by exact ⟨fun w => absurd w hng, fun _ => rfl⟩)
set_option maxHeartbeats 4000000 in
set_option maxRecDepth 100000 in
theorem c_X11_drift {l : Launch} {g : GP} (hG : GH g) {kd : Int → Nat} {ln : Int → Int} {mem : Int → Int → Int} {sz : Nat} (hK : HK kd ln) (hR : HR mem) (v : Int) (tg : Int → Int) (hI : INV kd ln mem sz tg) (h_v : InI v) : MT l g yX11_drift cX11_drift 2 (some .boolean) 1 0 0 [(2, 3), (0, v)] kd ln mem sz (pMB (fun c mem' => HR mem' ∧ ((c ↔ 0 ≤ v ∧ v ≤ 1000) ∧ mem' = (if 0 ≤ v ∧ v ≤ 1000 then set2 mem 3 2 v else mem))) kd ln sz) := by
  refine MT_of hG (by decide +kernel) (Nat.le_of_ble_eq_true rfl) (fun z hF hr hn => ?_)
  obtain ⟨⟨q0, q1, q2, q3, q4, q5⟩, u0, u2, u46, u89, usz⟩ := hI.num
  refine jblk hF [(.iload_n 1, 1), (.iconst 0, 1), (.sipush 1000, 3)] (by decide +kernel) (pc' := 5) (lo' := [(0, (2, 3)), (1, (0, v))]) (st' := [(0, 1000), (0, 0), (0, v)]) rfl ?_
  refine jcallS hF (c_X11_within hG v 0 1000 (by omega) (by decide) (by decide)) MW_X11_within wd_391 wd_392 (by decide +kernel) [] rfl rfl (by decide) (Nat.le_of_ble_eq_true rfl) (by decide) (kB (fun h_1 => ?_) (fun h_1 => ?_))
  · refine jif_ne hF (off := 5) 13 (by decide +kernel) (by decide) (by decide) (fun _ => ?_) (fun h => absurd h (by decide))
    refine jblk hF [(.aload_n 0, 1), (.iload_n 1, 1)] (by decide +kernel) (pc' := 15) (lo' := [(0, (2, 3)), (1, (0, v))]) (st' := [(0, v), (2, 3)]) rfl ?_
    refine jput hF 12 2 0 2 rfl (by decide) (by decide) rfl wd_328 (by decide +kernel) rfl (Or.inl rfl) (by exact hK.k3) (fun h => by cases h) ?_
    refine jblk hF [(.iconst 1, 1)] (by decide +kernel) (pc' := 19) (lo' := [(0, (2, 3)), (1, (0, v))]) (st' := [(0, 1)]) rfl ?_
    refine jzret hF hr (by omega) (by decide +kernel) ?_
    exact lMB1 ⟨(HR.s hR (by omega)), by first | exact ⟨⟨fun _ => by omega, fun _ => trivial⟩, (if_pos (by omega)).symm⟩ | exact ⟨⟨fun w => w.elim, fun w => by omega⟩, (if_neg (by omega)).symm⟩⟩
  · refine jif_ne hF (off := 5) 13 (by decide +kernel) (by decide) (by decide) (fun h => absurd h (by decide)) (fun _ => ?_)
    refine jblk hF [(.iconst 0, 1)] (by decide +kernel) (pc' := 12) (lo' := [(0, (2, 3)), (1, (0, v))]) (st' := [(0, 0)]) rfl ?_
    refine jzret hF hr (by omega) (by decide +kernel) ?_
    exact lMB0 ⟨hR, by first | exact ⟨⟨fun _ => by omega, fun _ => trivial⟩, (if_pos (by omega)).symm⟩ | exact ⟨⟨fun w => w.elim, fun w => by omega⟩, (if_neg (by omega)).symm⟩⟩
set_option maxHeartbeats 4000000 in
set_option maxRecDepth 100000 in
theorem c_X11_hours {l : Launch} {g : GP} (hG : GH g) {kd : Int → Nat} {ln : Int → Int} {mem : Int → Int → Int} {sz : Nat} (hK : HK kd ln) (hR : HR mem) (v : Int) (tg : Int → Int) (hI : INV kd ln mem sz tg) (h_v : InI v) : MT l g yX11_hours cX11_hours 2 (some .boolean) 1 0 0 [(2, 3), (0, v)] kd ln mem sz (pMB (fun c mem' => HR mem' ∧ ((c ↔ 1 ≤ v ∧ v ≤ 100) ∧ mem' = (if 1 ≤ v ∧ v ≤ 100 then set2 mem 3 3 v else mem))) kd ln sz) := by
  refine MT_of hG (by decide +kernel) (Nat.le_of_ble_eq_true rfl) (fun z hF hr hn => ?_)
  obtain ⟨⟨q0, q1, q2, q3, q4, q5⟩, u0, u2, u46, u89, usz⟩ := hI.num
  refine jblk hF [(.iload_n 1, 1), (.iconst 1, 1), (.bipush 100, 2)] (by decide +kernel) (pc' := 4) (lo' := [(0, (2, 3)), (1, (0, v))]) (st' := [(0, 100), (0, 1), (0, v)]) rfl ?_
  refine jcallS hF (c_X11_within hG v 1 100 (by omega) (by decide) (by decide)) MW_X11_within wd_391 wd_392 (by decide +kernel) [] rfl rfl (by decide) (Nat.le_of_ble_eq_true rfl) (by decide) (kB (fun h_1 => ?_) (fun h_1 => ?_))
  · refine jif_ne hF (off := 5) 12 (by decide +kernel) (by decide) (by decide) (fun _ => ?_) (fun h => absurd h (by decide))
    refine jblk hF [(.aload_n 0, 1), (.iload_n 1, 1)] (by decide +kernel) (pc' := 14) (lo' := [(0, (2, 3)), (1, (0, v))]) (st' := [(0, v), (2, 3)]) rfl ?_
    refine jput hF 12 3 0 3 rfl (by decide) (by decide) rfl wd_329 (by decide +kernel) rfl (Or.inl rfl) (by exact hK.k3) (fun h => by cases h) ?_
    refine jblk hF [(.iconst 1, 1)] (by decide +kernel) (pc' := 18) (lo' := [(0, (2, 3)), (1, (0, v))]) (st' := [(0, 1)]) rfl ?_
    refine jzret hF hr (by omega) (by decide +kernel) ?_
    exact lMB1 ⟨(HR.s hR (by omega)), by first | exact ⟨⟨fun _ => by omega, fun _ => trivial⟩, (if_pos (by omega)).symm⟩ | exact ⟨⟨fun w => w.elim, fun w => by omega⟩, (if_neg (by omega)).symm⟩⟩
  · refine jif_ne hF (off := 5) 12 (by decide +kernel) (by decide) (by decide) (fun h => absurd h (by decide)) (fun _ => ?_)
    refine jblk hF [(.iconst 0, 1)] (by decide +kernel) (pc' := 11) (lo' := [(0, (2, 3)), (1, (0, v))]) (st' := [(0, 0)]) rfl ?_
    refine jzret hF hr (by omega) (by decide +kernel) ?_
    exact lMB0 ⟨hR, by first | exact ⟨⟨fun _ => by omega, fun _ => trivial⟩, (if_pos (by omega)).symm⟩ | exact ⟨⟨fun w => w.elim, fun w => by omega⟩, (if_neg (by omega)).symm⟩⟩
set_option maxHeartbeats 4000000 in
set_option maxRecDepth 100000 in
theorem c_X11_days {l : Launch} {g : GP} (hG : GH g) {kd : Int → Nat} {ln : Int → Int} {mem : Int → Int → Int} {sz : Nat} (hK : HK kd ln) (hR : HR mem) (n : Int) (tg : Int → Int) (hI : INV kd ln mem sz tg) (h_n : InI n) : MT l g yX11_days cX11_days 2 (some .int) 1 0 0 [(2, 3), (0, n)] kd ln mem sz (pMR 0 (fun v mem' => HR mem' ∧ (((0 ≤ n ∧ n ≤ 1000 ∧ mem 35 0 + n ≤ 1000) → v = mem 35 0 + n ∧ mem' = set2 mem 3 0 (mem 35 0 + n)) ∧ (¬ (0 ≤ n ∧ n ≤ 1000 ∧ mem 35 0 + n ≤ 1000) → v = -1 ∧ mem' = mem))) kd ln sz) := by
  refine MT_of hG (by decide +kernel) (Nat.le_of_ble_eq_true rfl) (fun z hF hr hn => ?_)
  obtain ⟨⟨q0, q1, q2, q3, q4, q5⟩, u0, u2, u46, u89, usz⟩ := hI.num
  refine jblk hF [(.iload_n 1, 1), (.iconst 0, 1), (.sipush 1000, 3)] (by decide +kernel) (pc' := 5) (lo' := [(0, (2, 3)), (1, (0, n))]) (st' := [(0, 1000), (0, 0), (0, n)]) rfl ?_
  refine jcallS hF (c_X11_within hG n 0 1000 (by omega) (by decide) (by decide)) MW_X11_within wd_391 wd_392 (by decide +kernel) [] rfl rfl (by decide) (Nat.le_of_ble_eq_true rfl) (by decide) (kB (fun h_1 => ?_) (fun h_1 => ?_))
  · refine jif_eq hF (off := 15) 23 (by decide +kernel) (by decide) (by decide) (fun h => absurd h (by decide)) (fun _ => ?_)
    refine jblk hF [(.aload_n 0, 1)] (by decide +kernel) (pc' := 12) (lo' := [(0, (2, 3)), (1, (0, n))]) (st' := [(2, 3)]) rfl ?_
    refine jget hF 12 0 0 0 rfl (by decide) (by decide) rfl wd_326 (by decide +kernel) (by exact hK.k3) ?_
    refine jblk hF [(.iload_n 1, 1), (.iadd, 1), (.sipush 1000, 3)] (by decide +kernel) (pc' := 20) (lo' := [(0, (2, 3)), (1, (0, n))]) (st' := [(0, 1000), (0, (mem 3 0) + n)]) rfl ?_
    refine jicmp_le hF (off := 5) 25 (by decide +kernel) (by decide) (by omega) (by decide) (fun h_3 => ?_) (fun h_3 => ?_)
    · refine jblk hF [(.aload_n 0, 1), (.dup, 1)] (by decide +kernel) (pc' := 27) (lo' := [(0, (2, 3)), (1, (0, n))]) (st' := [(2, 3), (2, 3)]) rfl ?_
      refine jget hF 12 0 0 0 rfl (by decide) (by decide) rfl wd_326 (by decide +kernel) (by exact hK.k3) ?_
      refine jblk hF [(.iload_n 1, 1), (.iadd, 1)] (by decide +kernel) (pc' := 32) (lo' := [(0, (2, 3)), (1, (0, n))]) (st' := [(0, (mem 3 0) + n), (2, 3)]) rfl ?_
      rw [q0]
      refine jput hF 12 0 0 0 rfl (by decide) (by decide) rfl wd_326 (by decide +kernel) rfl (Or.inl rfl) (by exact hK.k3) (fun h => by cases h) ?_
      refine jblk hF [(.aload_n 0, 1)] (by decide +kernel) (pc' := 36) (lo' := [(0, (2, 3)), (1, (0, n))]) (st' := [(2, 3)]) rfl ?_
      refine jget hF 12 0 0 0 rfl (by decide) (by decide) rfl wd_326 (by decide +kernel) (by exact hK.k3) ?_
      rw [show (set2 mem 3 0 ((mem 35 0) + n)) 3 0 = (mem 35 0) + n from s2_s]
      refine jiret hF hr (by decide +kernel) ?_
      exact lMR ⟨(HR.s hR (by omega)), by first | exact ⟨fun w => by omega, fun _ => ⟨rfl, rfl⟩⟩ | exact ⟨fun _ => ⟨rfl, rfl⟩, fun w => absurd (by omega) w⟩⟩
    · refine jblk hF [(.iconst (-1), 1)] (by decide +kernel) (pc' := 24) (lo' := [(0, (2, 3)), (1, (0, n))]) (st' := [(0, (-1))]) rfl ?_
      refine jiret hF hr (by decide +kernel) ?_
      exact lMR ⟨hR, by first | exact ⟨fun w => by omega, fun _ => ⟨rfl, rfl⟩⟩ | exact ⟨fun _ => ⟨rfl, rfl⟩, fun w => absurd (by omega) w⟩⟩
  · refine jif_eq hF (off := 15) 23 (by decide +kernel) (by decide) (by decide) (fun _ => ?_) (fun h => absurd h (by decide))
    refine jblk hF [(.iconst (-1), 1)] (by decide +kernel) (pc' := 24) (lo' := [(0, (2, 3)), (1, (0, n))]) (st' := [(0, (-1))]) rfl ?_
    refine jiret hF hr (by decide +kernel) ?_
    exact lMR ⟨hR, by first | exact ⟨fun w => by omega, fun _ => ⟨rfl, rfl⟩⟩ | exact ⟨fun _ => ⟨rfl, rfl⟩, fun w => absurd (by omega) w⟩⟩
set_option maxHeartbeats 4000000 in
set_option maxRecDepth 100000 in
theorem c_X11_as {l : Launch} {g : GP} (hG : GH g) {kd : Int → Nat} {ln : Int → Int} {mem : Int → Int → Int} {sz : Nat} (hK : HK kd ln) (hR : HR mem) (d : Int) (tg : Int → Int) (hI : INV kd ln mem sz tg) (h_d : InI d) : MT l g yX11_as cX11_as 2 (some .boolean) 2 0 0 [(2, 3), (0, d)] kd ln mem sz (pMB (fun c mem' => HR mem' ∧ ((c ↔ (-1 ≤ d ∧ d ≤ mem 35 0)) ∧ mem' = (if (-1 ≤ d ∧ d ≤ mem 35 0) then set2 mem 3 1 d else mem))) kd ln sz) := by
  refine MT_of hG (by decide +kernel) (Nat.le_of_ble_eq_true rfl) (fun z hF hr hn => ?_)
  obtain ⟨⟨q0, q1, q2, q3, q4, q5⟩, u0, u2, u46, u89, usz⟩ := hI.num
  refine jblk hF [(.iload_n 1, 1), (.iconst (-1), 1)] (by decide +kernel) (pc' := 2) (lo' := [(0, (2, 3)), (1, (0, d))]) (st' := [(0, (-1)), (0, d)]) rfl ?_
  refine jicmp_eq hF (off := 13) 15 (by decide +kernel) (by decide) (by omega) (by decide) (fun h_1 => ?_) (fun h_1 => ?_)
  · refine jblk hF [(.aload_n 0, 1), (.iload_n 1, 1)] (by decide +kernel) (pc' := 17) (lo' := [(0, (2, 3)), (1, (0, d))]) (st' := [(0, d), (2, 3)]) rfl ?_
    refine jput hF 12 1 0 1 rfl (by decide) (by decide) rfl wd_327 (by decide +kernel) rfl (Or.inl rfl) (by exact hK.k3) (fun h => by cases h) ?_
    refine jblk hF [(.iconst 1, 1)] (by decide +kernel) (pc' := 21) (lo' := [(0, (2, 3)), (1, (0, d))]) (st' := [(0, 1)]) rfl ?_
    refine jzret hF hr (by omega) (by decide +kernel) ?_
    exact lMB1 ⟨(HR.s hR (by omega)), by first | exact ⟨⟨fun _ => by omega, fun _ => trivial⟩, (if_pos (by omega)).symm⟩ | exact ⟨⟨fun w => w.elim, fun w => by omega⟩, (if_neg (by omega)).symm⟩⟩
  · refine jblk hF [(.aload_n 0, 1), (.iload_n 1, 1)] (by decide +kernel) (pc' := 7) (lo' := [(0, (2, 3)), (1, (0, d))]) (st' := [(0, d), (2, 3)]) rfl ?_
    refine jcallV hF (c_X11_isDay hG hK hR d (by exact tg) (by assumption) (by omega)) MW_X11_isDay 12 (by decide) (by exact hK.k3) wd_398 wd_400 wd_p1 (by decide +kernel) [] rfl rfl (by decide) (Nat.le_of_ble_eq_true rfl) (by decide) (kB (fun h_2 => ?_) (fun h_2 => ?_))
    · refine jif_ne hF (off := 5) 15 (by decide +kernel) (by decide) (by decide) (fun _ => ?_) (fun h => absurd h (by decide))
      refine jblk hF [(.aload_n 0, 1), (.iload_n 1, 1)] (by decide +kernel) (pc' := 17) (lo' := [(0, (2, 3)), (1, (0, d))]) (st' := [(0, d), (2, 3)]) rfl ?_
      refine jput hF 12 1 0 1 rfl (by decide) (by decide) rfl wd_327 (by decide +kernel) rfl (Or.inl rfl) (by exact hK.k3) (fun h => by cases h) ?_
      refine jblk hF [(.iconst 1, 1)] (by decide +kernel) (pc' := 21) (lo' := [(0, (2, 3)), (1, (0, d))]) (st' := [(0, 1)]) rfl ?_
      refine jzret hF hr (by omega) (by decide +kernel) ?_
      exact lMB1 ⟨(HR.s hR (by omega)), by first | exact ⟨⟨fun _ => by omega, fun _ => trivial⟩, (if_pos (by omega)).symm⟩ | exact ⟨⟨fun w => w.elim, fun w => by omega⟩, (if_neg (by omega)).symm⟩⟩
    · refine jif_ne hF (off := 5) 15 (by decide +kernel) (by decide) (by decide) (fun h => absurd h (by decide)) (fun _ => ?_)
      refine jblk hF [(.iconst 0, 1)] (by decide +kernel) (pc' := 14) (lo' := [(0, (2, 3)), (1, (0, d))]) (st' := [(0, 0)]) rfl ?_
      refine jzret hF hr (by omega) (by decide +kernel) ?_
      exact lMB0 ⟨hR, by first | exact ⟨⟨fun _ => by omega, fun _ => trivial⟩, (if_pos (by omega)).symm⟩ | exact ⟨⟨fun w => w.elim, fun w => by omega⟩, (if_neg (by omega)).symm⟩⟩
set_option maxHeartbeats 4000000 in
set_option maxRecDepth 100000 in
theorem c_X11_end {l : Launch} {g : GP} (hG : GH g) {kd : Int → Nat} {ln : Int → Int} {mem : Int → Int → Int} {sz : Nat} (hK : HK kd ln) (hR : HR mem) (n : Int) (tg : Int → Int) (hI : INV kd ln mem sz tg) (h_n : InI n) : MT l g yX11_end cX11_end 2 (some .boolean) 1 0 0 [(2, 3), (0, n)] kd ln mem sz (pMB (fun c mem' => HR mem' ∧ ((c ↔ (0 ≤ n ∧ n ≤ mem 35 11)) ∧ mem' = (if (0 ≤ n ∧ n ≤ mem 35 11) then set2 mem 5 1 n else mem))) kd ln sz) := by
  refine MT_of hG (by decide +kernel) (Nat.le_of_ble_eq_true rfl) (fun z hF hr hn => ?_)
  obtain ⟨⟨q0, q1, q2, q3, q4, q5⟩, u0, u2, u46, u89, usz⟩ := hI.num
  have e5 : mem 5 1 = mem 35 11 := hI.tap.1
  have n5 := hI.ptx
  refine jblk hF [(.iload_n 1, 1), (.iconst 0, 1), (.aload_n 0, 1)] (by decide +kernel) (pc' := 3) (lo' := [(0, (2, 3)), (1, (0, n))]) (st' := [(2, 3), (0, 0), (0, n)]) rfl ?_
  refine jget hF 12 7 2 7 rfl (by decide) (by decide) rfl wd_333 (by decide +kernel) (by exact hK.k3) ?_
  rw [HR.r3_7 hR]
  refine jget hF 11 1 0 1 rfl (by decide) (by decide) rfl wd_151 (by decide +kernel) (by exact hK.k5) ?_
  refine jcallS hF (c_X11_within hG n 0 (mem 5 1) (by omega) (by decide) (by omega)) MW_X11_within wd_391 wd_392 (by decide +kernel) [] rfl rfl (by decide) (Nat.le_of_ble_eq_true rfl) (by decide) (kB (fun h_1 => ?_) (fun h_1 => ?_))
  · refine jif_ne hF (off := 5) 17 (by decide +kernel) (by decide) (by decide) (fun _ => ?_) (fun h => absurd h (by decide))
    refine jblk hF [(.aload_n 0, 1)] (by decide +kernel) (pc' := 18) (lo' := [(0, (2, 3)), (1, (0, n))]) (st' := [(2, 3)]) rfl ?_
    refine jget hF 12 7 2 7 rfl (by decide) (by decide) rfl wd_333 (by decide +kernel) (by exact hK.k3) ?_
    rw [HR.r3_7 hR]
    refine jblk hF [(.iload_n 1, 1)] (by decide +kernel) (pc' := 22) (lo' := [(0, (2, 3)), (1, (0, n))]) (st' := [(0, n), (2, 5)]) rfl ?_
    refine jput hF 11 1 0 1 rfl (by decide) (by decide) rfl wd_151 (by decide +kernel) rfl (Or.inl rfl) (by exact hK.k5) (fun h => by cases h) ?_
    refine jblk hF [(.iconst 1, 1)] (by decide +kernel) (pc' := 26) (lo' := [(0, (2, 3)), (1, (0, n))]) (st' := [(0, 1)]) rfl ?_
    refine jzret hF hr (by omega) (by decide +kernel) ?_
    exact lMB1 ⟨(HR.s hR (by omega)), by first | exact ⟨⟨fun _ => by omega, fun _ => trivial⟩, (if_pos (by omega)).symm⟩ | exact ⟨⟨fun w => w.elim, fun w => by omega⟩, (if_neg (by omega)).symm⟩⟩
  · refine jif_ne hF (off := 5) 17 (by decide +kernel) (by decide) (by decide) (fun h => absurd h (by decide)) (fun _ => ?_)
    refine jblk hF [(.iconst 0, 1)] (by decide +kernel) (pc' := 16) (lo' := [(0, (2, 3)), (1, (0, n))]) (st' := [(0, 0)]) rfl ?_
    refine jzret hF hr (by omega) (by decide +kernel) ?_
    exact lMB0 ⟨hR, by first | exact ⟨⟨fun _ => by omega, fun _ => trivial⟩, (if_pos (by omega)).symm⟩ | exact ⟨⟨fun w => w.elim, fun w => by omega⟩, (if_neg (by omega)).symm⟩⟩
set_option maxHeartbeats 4000000 in
set_option maxRecDepth 100000 in
theorem c_X11_left {l : Launch} {g : GP} (hG : GH g) {kd : Int → Nat} {ln : Int → Int} {mem : Int → Int → Int} {sz : Nat} (hK : HK kd ln) (hR : HR mem) (x y : Int) (tg : Int → Int) (hI : INV kd ln mem sz tg) (h_x : InI x) (h_y : InI y) : MT l g yX11_left cX11_left 3 (some .int) 2 0 0 [(2, 3), (0, x), (0, y)] kd ln mem sz (pV (0, leftV mem x y) kd ln mem sz) := by
  refine MT_of hG (by decide +kernel) (Nat.le_of_ble_eq_true rfl) (fun z hF hr hn => ?_)
  obtain ⟨⟨q0, q1, q2, q3, q4, q5⟩, u0, u2, u46, u89, usz⟩ := hI.num
  refine jblk hF [(.iload_n 1, 1)] (by decide +kernel) (pc' := 1) (lo' := [(0, (2, 3)), (1, (0, x)), (2, (0, y))]) (st' := [(0, x)]) rfl ?_
  refine jcallS hF (c_X11_isHand hG x (by omega)) MW_X11_isHand wd_1090 wd_794 (by decide +kernel) [] rfl rfl (by decide) (Nat.le_of_ble_eq_true rfl) (by decide) (kB (fun h_1 => ?_) (fun h_1 => ?_))
  · refine jif_eq hF (off := 24) 28 (by decide +kernel) (by decide) (by decide) (fun h => absurd h (by decide)) (fun _ => ?_)
    refine jblk hF [(.iload_n 2, 1)] (by decide +kernel) (pc' := 8) (lo' := [(0, (2, 3)), (1, (0, x)), (2, (0, y))]) (st' := [(0, y)]) rfl ?_
    refine jcallS hF (c_X11_isHand hG y (by omega)) MW_X11_isHand wd_1090 wd_794 (by decide +kernel) [] rfl rfl (by decide) (Nat.le_of_ble_eq_true rfl) (by decide) (kB (fun h_3 => ?_) (fun h_3 => ?_))
    · refine jif_eq hF (off := 17) 28 (by decide +kernel) (by decide) (by decide) (fun h => absurd h (by decide)) (fun _ => ?_)
      refine jblk hF [(.aload_n 0, 1)] (by decide +kernel) (pc' := 15) (lo' := [(0, (2, 3)), (1, (0, x)), (2, (0, y))]) (st' := [(2, 3)]) rfl ?_
      refine jget hF 12 6 2 6 rfl (by decide) (by decide) rfl wd_332 (by decide +kernel) (by exact hK.k3) ?_
      rw [HR.r3_6 hR]
      refine jblk hF [(.iload_n 1, 1), (.bipush 8, 2), (.imul, 1), (.iload_n 2, 1), (.iadd, 1)] (by decide +kernel) (pc' := 24) (lo' := [(0, (2, 3)), (1, (0, x)), (2, (0, y))]) (st' := [(0, (x * 8) + y), (2, 4)]) rfl ?_
      refine jiald hF (by decide +kernel) (by exact hK.k4) (by omega) (by have := hK.l4; omega) ?_
      refine jgoto hF (off := 4) 29 (by decide +kernel) (by decide) ?_
      refine jiret hF hr (by decide +kernel) ?_
      exact lV (by first | exact hI.lft (by omega) (by omega) | exact (hI.lfo (by omega)).symm)
    · refine jif_eq hF (off := 17) 28 (by decide +kernel) (by decide) (by decide) (fun _ => ?_) (fun h => absurd h (by decide))
      refine jblk hF [(.iconst (-1), 1)] (by decide +kernel) (pc' := 29) (lo' := [(0, (2, 3)), (1, (0, x)), (2, (0, y))]) (st' := [(0, (-1))]) rfl ?_
      refine jiret hF hr (by decide +kernel) ?_
      exact lV (by first | exact hI.lft (by omega) (by omega) | exact (hI.lfo (by omega)).symm)
  · refine jif_eq hF (off := 24) 28 (by decide +kernel) (by decide) (by decide) (fun _ => ?_) (fun h => absurd h (by decide))
    refine jblk hF [(.iconst (-1), 1)] (by decide +kernel) (pc' := 29) (lo' := [(0, (2, 3)), (1, (0, x)), (2, (0, y))]) (st' := [(0, (-1))]) rfl ?_
    refine jiret hF hr (by decide +kernel) ?_
    exact lV (by first | exact hI.lft (by omega) (by omega) | exact (hI.lfo (by omega)).symm)
set_option maxHeartbeats 4000000 in
set_option maxRecDepth 100000 in
theorem c_X11_paged {l : Launch} {g : GP} (hG : GH g) {kd : Int → Nat} {ln : Int → Int} {mem : Int → Int → Int} {sz : Nat} (hK : HK kd ln) (hR : HR mem) (p w : Int) (tg : Int → Int) (hI : INV kd ln mem sz tg) (h_p : InI p) (h_w : InI w) : MT l g yX11_paged cX11_paged 4 (some .int) 4 0 0 [(2, 3), (0, p), (0, w)] kd ln mem sz (pV (0, pagedA mem p w) kd ln mem sz) := by
  refine MT_of hG (by decide +kernel) (Nat.le_of_ble_eq_true rfl) (fun z hF hr hn => ?_)
  obtain ⟨⟨q0, q1, q2, q3, q4, q5⟩, u0, u2, u46, u89, usz⟩ := hI.num
  have n29 : 0 ≤ mem 35 33 ∧ mem 35 33 ≤ 12 := ⟨hI.pgs.1, hI.pgs.2.1⟩
  obtain ⟨e29, k29, r29, b29, c29⟩ := hI.g29.ls
  refine jblk hF [(.aload_n 0, 1), (.iload_n 1, 1)] (by decide +kernel) (pc' := 2) (lo' := [(0, (2, 3)), (1, (0, p)), (2, (0, w))]) (st' := [(0, p), (2, 3)]) rfl ?_
  refine jcallV hF (c_X11_pageAt hG hK hR p (by exact tg) (by assumption) (by omega)) MW_X11_pageAt 12 (by decide) (by exact hK.k3) wd_851 wd_853 wd_p24 (by decide +kernel) [] rfl rfl (by decide) (Nat.le_of_ble_eq_true rfl) (by decide) (kR (fun v_1 h_2 => ?_))
  have hv := h_2
  refine jblk hF [(.astore_n 3, 1), (.aload_n 3, 1)] (by decide +kernel) (pc' := 7) (lo' := [(3, (2, v_1)), (0, (2, 3)), (1, (0, p)), (2, (0, w))]) (st' := [(2, v_1)]) rfl ?_
  refine jnonnull hF (off := 7) 14 (by decide +kernel) (by decide) (fun h_3 => ?_) (fun h_3 => ?_)
  · obtain ⟨hpg, hob⟩ := hv.1 (by omega)
    have hk := hob.at
    have hpb := hob.pb
    refine jblk hF [(.aload_n 3, 1), (.iload_n 2, 1)] (by decide +kernel) (pc' := 16) (lo' := [(3, (2, v_1)), (0, (2, 3)), (1, (0, p)), (2, (0, w))]) (st' := [(0, w), (2, v_1)]) rfl ?_
    refine jcallV hF (c_X3_told hG v_1 w (by first | assumption | omega) (by omega) (by assumption) (by omega)) MW_X3_told 4 (by decide) (by exact hk.1) wd_855 wd_856 wd_857 (by decide +kernel) [] rfl rfl (by decide) (Nat.le_of_ble_eq_true rfl) (by decide) (kV ?_)
    refine jiret hF hr (by decide +kernel) ?_
    exact lV (by first | exact (if_neg hng).symm | (obtain ⟨g0, g1, g2, g3, g4, g5, g6, g7, g8⟩ := hob.nm; have hb := blk_eq (L := mem 47 p) (m := mem 52 p) (by omega); unfold pagedA; rw [if_pos hpg, g0, g2, g3, g4, g5, g6, g7, g8, hb]))
  · have hng := (hv.2 (by omega)).1
    refine jblk hF [(.iconst (-1), 1)] (by decide +kernel) (pc' := 11) (lo' := [(3, (2, v_1)), (0, (2, 3)), (1, (0, p)), (2, (0, w))]) (st' := [(0, (-1))]) rfl ?_
    refine jgoto hF (off := 8) 19 (by decide +kernel) (by decide) ?_
    refine jiret hF hr (by decide +kernel) ?_
    exact lV (by first | exact (if_neg hng).symm | (obtain ⟨g0, g1, g2, g3, g4, g5, g6, g7, g8⟩ := hob.nm; have hb := blk_eq (L := mem 47 p) (m := mem 52 p) (by omega); unfold pagedA; rw [if_pos hpg, g0, g2, g3, g4, g5, g6, g7, g8, hb]))
set_option maxHeartbeats 4000000 in
set_option maxRecDepth 100000 in
theorem c_X11_lined {l : Launch} {g : GP} (hG : GH g) {kd : Int → Nat} {ln : Int → Int} {mem : Int → Int → Int} {sz : Nat} (hK : HK kd ln) (hR : HR mem) (p n w : Int) (tg : Int → Int) (hI : INV kd ln mem sz tg) (h_p : InI p) (h_n : InI n) (h_w : InI w) : MT l g yX11_lined cX11_lined 5 (some .int) 5 0 0 [(2, 3), (0, p), (0, n), (0, w)] kd ln mem sz (pV (0, linedA mem p n w) kd ln mem sz) := by
  refine MT_of hG (by decide +kernel) (Nat.le_of_ble_eq_true rfl) (fun z hF hr hn => ?_)
  obtain ⟨⟨q0, q1, q2, q3, q4, q5⟩, u0, u2, u46, u89, usz⟩ := hI.num
  have n29 : 0 ≤ mem 35 33 ∧ mem 35 33 ≤ 12 := ⟨hI.pgs.1, hI.pgs.2.1⟩
  obtain ⟨e29, k29, r29, b29, c29⟩ := hI.g29.ls
  refine jblk hF [(.aload_n 0, 1), (.iload_n 1, 1), (.iload_n 2, 1)] (by decide +kernel) (pc' := 3) (lo' := [(0, (2, 3)), (1, (0, p)), (2, (0, n)), (3, (0, w))]) (st' := [(0, n), (0, p), (2, 3)]) rfl ?_
  refine jcallV hF (c_X11_pageWith hG hK hR p n (by exact tg) (by assumption) (by omega) (by omega)) MW_X11_pageWith 12 (by decide) (by exact hK.k3) wd_869 wd_871 wd_p25 (by decide +kernel) [] rfl rfl (by decide) (Nat.le_of_ble_eq_true rfl) (by decide) (kR (fun v_1 h_2 => ?_))
  have hv := h_2
  refine jblk hF [(.astore 4, 2), (.aload 4, 2)] (by decide +kernel) (pc' := 10) (lo' := [(4, (2, v_1)), (0, (2, 3)), (1, (0, p)), (2, (0, n)), (3, (0, w))]) (st' := [(2, v_1)]) rfl ?_
  refine jnonnull hF (off := 7) 17 (by decide +kernel) (by decide) (fun h_3 => ?_) (fun h_3 => ?_)
  · obtain ⟨hpg, hob⟩ := hv.1 (by omega)
    have hk := hob.at
    have hpb := hob.pb
    have hgn := hob.nm
    have hn2 := hgn.2.2.1
    have har : ∀ k : Int, 9 ≤ k → k ≤ 12 → kd (mem v_1 k) = 20 ∧ ln (mem v_1 k) = 40 ∧ 3 ≤ mem v_1 k := fun k w1 w2 => hob.r4 w1 w2
    refine jblk hF [(.aload 4, 2), (.iload_n 2, 1), (.iload_n 3, 1)] (by decide +kernel) (pc' := 21) (lo' := [(4, (2, v_1)), (0, (2, 3)), (1, (0, p)), (2, (0, n)), (3, (0, w))]) (st' := [(0, w), (0, n), (2, v_1)]) rfl ?_
    refine jcallV hF (c_X3_toldOf hG v_1 n w (by first | assumption | omega) (by omega) (by assumption) (by omega) (by assumption) (by omega)) MW_X3_toldOf 4 (by decide) (by first | assumption | omega) wd_877 wd_878 wd_879 (by decide +kernel) [] rfl rfl (by decide) (Nat.le_of_ble_eq_true rfl) (by decide) (kV ?_)
    refine jiret hF hr (by decide +kernel) ?_
    exact lV (by first | exact (if_neg hng).symm | (obtain ⟨g0, g1, g2, g3, g4, g5, g6, g7, g8⟩ := hob.nm; obtain ⟨f1, f2, f3, f4, -⟩ := hob.2.1.2.2.1 n (by omega) (by omega); unfold linedA; rw [if_pos hpg, g1, g3, g7, f1, f2, f3, f4]))
  · have hng := (hv.2 (by omega)).1
    refine jblk hF [(.iconst (-1), 1)] (by decide +kernel) (pc' := 14) (lo' := [(4, (2, v_1)), (0, (2, 3)), (1, (0, p)), (2, (0, n)), (3, (0, w))]) (st' := [(0, (-1))]) rfl ?_
    refine jgoto hF (off := 10) 24 (by decide +kernel) (by decide) ?_
    refine jiret hF hr (by decide +kernel) ?_
    exact lV (by first | exact (if_neg hng).symm | (obtain ⟨g0, g1, g2, g3, g4, g5, g6, g7, g8⟩ := hob.nm; obtain ⟨f1, f2, f3, f4, -⟩ := hob.2.1.2.2.1 n (by omega) (by omega); unfold linedA; rw [if_pos hpg, g1, g3, g7, f1, f2, f3, f4]))
set_option maxHeartbeats 4000000 in
set_option maxRecDepth 100000 in
theorem c_X11_bound {l : Launch} {g : GP} (hG : GH g) {kd : Int → Nat} {ln : Int → Int} {mem : Int → Int → Int} {sz : Nat} (hK : HK kd ln) (hR : HR mem) (p n : Int) (tg : Int → Int) (hI : INV kd ln mem sz tg) (h_p : InI p) (h_n : InI n) : MT l g yX11_bound cX11_bound 4 (some .long) 5 0 0 [(2, 3), (0, p), (0, n)] kd ln mem sz (pV (1, if isLn mem p n then boundV mem p n else -1) kd ln mem sz) := by
  refine MT_of hG (by decide +kernel) (Nat.le_of_ble_eq_true rfl) (fun z hF hr hn => ?_)
  obtain ⟨⟨q0, q1, q2, q3, q4, q5⟩, u0, u2, u46, u89, usz⟩ := hI.num
  have n29 : 0 ≤ mem 35 33 ∧ mem 35 33 ≤ 12 := ⟨hI.pgs.1, hI.pgs.2.1⟩
  obtain ⟨e29, k29, r29, b29, c29⟩ := hI.g29.ls
  refine jblk hF [(.aload_n 0, 1), (.iload_n 1, 1), (.iload_n 2, 1)] (by decide +kernel) (pc' := 3) (lo' := [(0, (2, 3)), (1, (0, p)), (2, (0, n))]) (st' := [(0, n), (0, p), (2, 3)]) rfl ?_
  refine jcallV hF (c_X11_pageWith hG hK hR p n (by exact tg) (by assumption) (by omega) (by omega)) MW_X11_pageWith 12 (by decide) (by exact hK.k3) wd_869 wd_871 wd_p25 (by decide +kernel) [] rfl rfl (by decide) (Nat.le_of_ble_eq_true rfl) (by decide) (kR (fun v_1 h_2 => ?_))
  have hv := h_2
  refine jblk hF [(.astore_n 3, 1), (.aload_n 3, 1)] (by decide +kernel) (pc' := 8) (lo' := [(3, (2, v_1)), (0, (2, 3)), (1, (0, p)), (2, (0, n))]) (st' := [(2, v_1)]) rfl ?_
  refine jnonnull hF (off := 9) 17 (by decide +kernel) (by decide) (fun h_3 => ?_) (fun h_3 => ?_)
  · obtain ⟨hpg, hob⟩ := hv.1 (by omega)
    have hk := hob.at
    have hpb := hob.pb
    have hgn := hob.nm
    have hn2 := hgn.2.2.1
    refine jblk hF [(.aload_n 3, 1), (.iload_n 2, 1)] (by decide +kernel) (pc' := 19) (lo' := [(3, (2, v_1)), (0, (2, 3)), (1, (0, p)), (2, (0, n))]) (st' := [(0, n), (2, v_1)]) rfl ?_
    refine jcallV hF (c_X3_boundOf hG v_1 n (by first | assumption | omega) (by omega) (by assumption) (by omega)) MW_X3_boundOf 4 (by decide) (by first | assumption | omega) wd_997 wd_998 wd_999 (by decide +kernel) [] rfl rfl (by decide) (Nat.le_of_ble_eq_true rfl) (by decide) (kV ?_)
    refine jlret hF hr (by decide +kernel) ?_
    exact lV (by first | exact (if_neg hng).symm | (rw [if_pos hpg]; exact hob.bnd n))
  · have hng := (hv.2 (by omega)).1
    refine jldc2 hF (-1) (cst_l wd_512 (by decide)) (by decide +kernel) ?_
    refine jgoto hF (off := 8) 22 (by decide +kernel) (by decide) ?_
    refine jlret hF hr (by decide +kernel) ?_
    exact lV (by first | exact (if_neg hng).symm | (rw [if_pos hpg]; exact hob.bnd n))
set_option maxHeartbeats 4000000 in
set_option maxRecDepth 100000 in
theorem c_X11_shut {l : Launch} {g : GP} (hG : GH g) {kd : Int → Nat} {ln : Int → Int} {mem : Int → Int → Int} {sz : Nat} (hK : HK kd ln) (hR : HR mem) (h p n : Int) (tg : Int → Int) (hI : INV kd ln mem sz tg) (h_h : InI h) (h_p : InI p) (h_n : InI n) : MT l g yX11_shut cX11_shut 6 (some .int) 5 0 0 [(2, 3), (0, h), (0, p), (0, n)] kd ln mem sz (pV (0, shutV mem h p n) kd ln mem sz) := by
  refine MT_of hG (by decide +kernel) (Nat.le_of_ble_eq_true rfl) (fun z hF hr hn => ?_)
  obtain ⟨⟨q0, q1, q2, q3, q4, q5⟩, u0, u2, u46, u89, usz⟩ := hI.num
  have n29 : 0 ≤ mem 35 33 ∧ mem 35 33 ≤ 12 := ⟨hI.pgs.1, hI.pgs.2.1⟩
  obtain ⟨e29, k29, r29, b29, c29⟩ := hI.g29.ls
  refine jblk hF [(.aload_n 0, 1), (.iload_n 2, 1), (.iload_n 3, 1)] (by decide +kernel) (pc' := 3) (lo' := [(0, (2, 3)), (1, (0, h)), (2, (0, p)), (3, (0, n))]) (st' := [(0, n), (0, p), (2, 3)]) rfl ?_
  refine jcallV hF (c_X11_pageWith hG hK hR p n (by exact tg) (by assumption) (by omega) (by omega)) MW_X11_pageWith 12 (by decide) (by exact hK.k3) wd_869 wd_871 wd_p25 (by decide +kernel) [] rfl rfl (by decide) (Nat.le_of_ble_eq_true rfl) (by decide) (kR (fun v_1 h_2 => ?_))
  have hv := h_2
  refine jblk hF [(.astore 4, 2), (.iload_n 1, 1)] (by decide +kernel) (pc' := 9) (lo' := [(4, (2, v_1)), (0, (2, 3)), (1, (0, h)), (2, (0, p)), (3, (0, n))]) (st' := [(0, h)]) rfl ?_
  refine jcallS hF (c_X11_isHand hG h (by omega)) MW_X11_isHand wd_1090 wd_794 (by decide +kernel) [] rfl rfl (by decide) (Nat.le_of_ble_eq_true rfl) (by decide) (kB (fun h_3 => ?_) (fun h_3 => ?_))
  · refine jif_eq hF (off := 8) 20 (by decide +kernel) (by decide) (by decide) (fun h => absurd h (by decide)) (fun _ => ?_)
    refine jblk hF [(.aload 4, 2)] (by decide +kernel) (pc' := 17) (lo' := [(4, (2, v_1)), (0, (2, 3)), (1, (0, h)), (2, (0, p)), (3, (0, n))]) (st' := [(2, v_1)]) rfl ?_
    refine jnonnull hF (off := 5) 22 (by decide +kernel) (by decide) (fun h_5 => ?_) (fun h_5 => ?_)
    · obtain ⟨hpg, hob⟩ := hv.1 (by omega)
      have hk := hob.at
      have hpb := hob.pb
      have hgn := hob.nm
      have hn2 := hgn.2.2.1
      have hr9 := hob.r4 (k := 9) (by decide) (by decide)
      have hr10 := hob.r4 (k := 10) (by decide) (by decide)
      obtain ⟨f1, f2, -⟩ := hob.2.1.2.2.1 n (by omega) (by omega)
      have hlh := hI.lh p n (by omega) (by omega) (by omega) (by omega)
      have hfa : fand (fishr (mem 55 (40 * p + n)) h) 1 = 0 ∨ fand (fishr (mem 55 (40 * p + n)) h) 1 = 1 := by rw [fand_1]; omega
      refine jblk hF [(.aload 4, 2)] (by decide +kernel) (pc' := 24) (lo' := [(4, (2, v_1)), (0, (2, 3)), (1, (0, h)), (2, (0, p)), (3, (0, n))]) (st' := [(2, v_1)]) rfl ?_
      refine jget hF 4 10 2 10 rfl (by decide) (by decide) rfl wd_713 (by decide +kernel) (by first | assumption | omega) ?_
      refine jblk hF [(.iload_n 3, 1)] (by decide +kernel) (pc' := 28) (lo' := [(4, (2, v_1)), (0, (2, 3)), (1, (0, h)), (2, (0, p)), (3, (0, n))]) (st' := [(0, n), (2, mem v_1 10)]) rfl ?_
      refine jiald hF (by decide +kernel) (by first | assumption | omega) (by omega) (by omega) ?_
      rw [f2]
      refine jblk hF [(.iload_n 1, 1), (.ishr, 1), (.iconst 1, 1), (.iand, 1), (.iconst 1, 1)] (by decide +kernel) (pc' := 34) (lo' := [(4, (2, v_1)), (0, (2, 3)), (1, (0, h)), (2, (0, p)), (3, (0, n))]) (st' := [(0, 1), (0, fand (fishr (mem 55 (40 * p + n)) h) 1)]) rfl ?_
      refine jicmp_ne hF (off := 7) 41 (by decide +kernel) (by decide) (by omega) (by decide) (fun h_6 => ?_) (fun h_6 => ?_)
      · refine jblk hF [(.iconst 0, 1), (.istore 5, 2), (.iload 5, 2)] (by decide +kernel) (pc' := 46) (lo' := [(5, (0, 0)), (4, (2, v_1)), (0, (2, 3)), (1, (0, h)), (2, (0, p)), (3, (0, n))]) (st' := [(0, 0)]) rfl ?_
        refine jif_ne hF (off := 14) 60 (by decide +kernel) (by decide) (by decide) (fun h => absurd h (by decide)) (fun _ => ?_)
        refine jblk hF [(.aload 4, 2)] (by decide +kernel) (pc' := 51) (lo' := [(5, (0, 0)), (4, (2, v_1)), (0, (2, 3)), (1, (0, h)), (2, (0, p)), (3, (0, n))]) (st' := [(2, v_1)]) rfl ?_
        refine jget hF 4 9 2 9 rfl (by decide) (by decide) rfl wd_711 (by decide +kernel) (by first | assumption | omega) ?_
        refine jblk hF [(.iload_n 3, 1)] (by decide +kernel) (pc' := 55) (lo' := [(5, (0, 0)), (4, (2, v_1)), (0, (2, 3)), (1, (0, h)), (2, (0, p)), (3, (0, n))]) (st' := [(0, n), (2, mem v_1 9)]) rfl ?_
        refine jiald hF (by decide +kernel) (by first | assumption | omega) (by omega) (by omega) ?_
        rw [f1]
        refine jblk hF [(.iload_n 1, 1)] (by decide +kernel) (pc' := 57) (lo' := [(5, (0, 0)), (4, (2, v_1)), (0, (2, 3)), (1, (0, h)), (2, (0, p)), (3, (0, n))]) (st' := [(0, h), (0, mem 54 (40 * p + n))]) rfl ?_
        refine jicmp_ne hF (off := 7) 64 (by decide +kernel) (by decide) (by omega) (by omega) (fun h_8 => ?_) (fun h_8 => ?_)
        · refine jblk hF [(.iconst 1, 1)] (by decide +kernel) (pc' := 65) (lo' := [(5, (0, 0)), (4, (2, v_1)), (0, (2, 3)), (1, (0, h)), (2, (0, p)), (3, (0, n))]) (st' := [(0, 1)]) rfl ?_
          refine jiret hF hr (by decide +kernel) ?_
          exact lV (by (unfold shutV; rw [if_pos ⟨by omega, hpg⟩]; first | exact (if_pos (by omega)).symm | exact (if_neg (by omega)).symm))
        · refine jblk hF [(.iconst 0, 1)] (by decide +kernel) (pc' := 61) (lo' := [(5, (0, 0)), (4, (2, v_1)), (0, (2, 3)), (1, (0, h)), (2, (0, p)), (3, (0, n))]) (st' := [(0, 0)]) rfl ?_
          refine jgoto hF (off := 4) 65 (by decide +kernel) (by decide) ?_
          refine jiret hF hr (by decide +kernel) ?_
          exact lV (by (unfold shutV; rw [if_pos ⟨by omega, hpg⟩]; first | exact (if_pos (by omega)).symm | exact (if_neg (by omega)).symm))
      · refine jblk hF [(.iconst 1, 1)] (by decide +kernel) (pc' := 38) (lo' := [(4, (2, v_1)), (0, (2, 3)), (1, (0, h)), (2, (0, p)), (3, (0, n))]) (st' := [(0, 1)]) rfl ?_
        refine jgoto hF (off := 4) 42 (by decide +kernel) (by decide) ?_
        refine jblk hF [(.istore 5, 2), (.iload 5, 2)] (by decide +kernel) (pc' := 46) (lo' := [(5, (0, 1)), (4, (2, v_1)), (0, (2, 3)), (1, (0, h)), (2, (0, p)), (3, (0, n))]) (st' := [(0, 1)]) rfl ?_
        refine jif_ne hF (off := 14) 60 (by decide +kernel) (by decide) (by decide) (fun _ => ?_) (fun h => absurd h (by decide))
        refine jblk hF [(.iconst 0, 1)] (by decide +kernel) (pc' := 61) (lo' := [(5, (0, 1)), (4, (2, v_1)), (0, (2, 3)), (1, (0, h)), (2, (0, p)), (3, (0, n))]) (st' := [(0, 0)]) rfl ?_
        refine jgoto hF (off := 4) 65 (by decide +kernel) (by decide) ?_
        refine jiret hF hr (by decide +kernel) ?_
        exact lV (by (unfold shutV; rw [if_pos ⟨by omega, hpg⟩]; first | exact (if_pos (by omega)).symm | exact (if_neg (by omega)).symm))
    · have hng : ¬ ((0 ≤ h ∧ h ≤ 7) ∧ isLn mem p n) := fun w => by first | omega | exact (hv.2 (by omega)).1 w.2
      refine jblk hF [(.iconst (-1), 1)] (by decide +kernel) (pc' := 21) (lo' := [(4, (2, v_1)), (0, (2, 3)), (1, (0, h)), (2, (0, p)), (3, (0, n))]) (st' := [(0, (-1))]) rfl ?_
      refine jiret hF hr (by decide +kernel) ?_
      exact lV (by exact (if_neg hng).symm)
  · refine jif_eq hF (off := 8) 20 (by decide +kernel) (by decide) (by decide) (fun _ => ?_) (fun h => absurd h (by decide))
    have hng : ¬ ((0 ≤ h ∧ h ≤ 7) ∧ isLn mem p n) := fun w => by first | omega | exact (hv.2 (by omega)).1 w.2
    refine jblk hF [(.iconst (-1), 1)] (by decide +kernel) (pc' := 21) (lo' := [(4, (2, v_1)), (0, (2, 3)), (1, (0, h)), (2, (0, p)), (3, (0, n))]) (st' := [(0, (-1))]) rfl ?_
    refine jiret hF hr (by decide +kernel) ?_
    exact lV (by exact (if_neg hng).symm)
end
