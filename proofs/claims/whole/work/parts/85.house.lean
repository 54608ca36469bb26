section
theorem PAGV.set {kd : Int → Nat} {ln : Int → Int} {mem : Int → Int → Int} {sz : Nat} {tg : Int → Int} {p v : Int} (h : PAGV kd ln mem sz tg p v) : 0 ≤ mem v 17 ↔ mem 82 p = 1 := by
  rcases h.2.1.2.2.2.1 with ⟨w1, w2⟩ | ⟨w1, w2, -⟩
  · constructor <;> intro q <;> omega
  · have := w1.2.2.1
    constructor <;> intro q <;> omega
set_option maxHeartbeats 4000000 in
set_option maxRecDepth 100000 in
theorem c_X11_isDay {l : Launch} {g : GP} (hG : GH g) {kd : Int → Nat} {ln : Int → Int} {mem : Int → Int → Int} {sz : Nat} (hK : HK kd ln) (hR : HR mem) (q : Int) (tg : Int → Int) (hI : INV kd ln mem sz tg) (h_q : InI q) : MT l g yX11_isDay cX11_isDay 2 (some .boolean) 1 0 0 [(2, 3), (0, q)] kd ln mem sz (pB (isKn mem q) kd ln mem sz) := by
  refine MT_of hG (by decide +kernel) (Nat.le_of_ble_eq_true rfl) (fun z hF hr hn => ?_)
  obtain ⟨⟨q0, q1, q2, q3, q4, q5⟩, u0, u2, u46, u89, usz⟩ := hI.num
  refine jblk hF [(.iload_n 1, 1), (.iconst 0, 1), (.aload_n 0, 1)] (by decide +kernel) (pc' := 3) (lo' := [(0, (2, 3)), (1, (0, q))]) (st' := [(2, 3), (0, 0), (0, q)]) rfl ?_
  refine jget hF 12 0 0 0 rfl (by decide) (by decide) rfl wd_326 (by decide +kernel) (by exact hK.k3) ?_
  refine jcallS hF (c_X11_within hG q 0 (mem 3 0) (by omega) (by decide) (by omega)) MW_X11_within wd_391 wd_392 (by decide +kernel) [] rfl rfl (by decide) (Nat.le_of_ble_eq_true rfl) (by decide) (kB (fun h_1 => ?_) (fun h_1 => ?_))
  · refine jzret hF hr (by omega) (by decide +kernel) ?_
    exact lB1 (by omega)
  · refine jzret hF hr (by omega) (by decide +kernel) ?_
    exact lB0 (by omega)
set_option maxHeartbeats 4000000 in
set_option maxRecDepth 100000 in
theorem c_X11_known {l : Launch} {g : GP} (hG : GH g) {kd : Int → Nat} {ln : Int → Int} {mem : Int → Int → Int} {sz : Nat} (hK : HK kd ln) (hR : HR mem) (tg : Int → Int) (hI : INV kd ln mem sz tg) : MT l g yX11_known cX11_known 1 (some .int) 0 0 0 [(2, 3)] kd ln mem sz (pV (0, knw mem) kd ln mem sz) := by
  refine MT_of hG (by decide +kernel) (Nat.le_of_ble_eq_true rfl) (fun z hF hr hn => ?_)
  obtain ⟨⟨q0, q1, q2, q3, q4, q5⟩, u0, u2, u46, u89, usz⟩ := hI.num
  refine jblk hF [(.aload_n 0, 1)] (by decide +kernel) (pc' := 1) (lo' := [(0, (2, 3))]) (st' := [(2, 3)]) rfl ?_
  refine jget hF 12 1 0 1 rfl (by decide) (by decide) rfl wd_327 (by decide +kernel) (by exact hK.k3) ?_
  refine jblk hF [(.iconst (-1), 1)] (by decide +kernel) (pc' := 5) (lo' := [(0, (2, 3))]) (st' := [(0, (-1)), (0, mem 3 1)]) rfl ?_
  refine jicmp_ne hF (off := 10) 15 (by decide +kernel) (by decide) (by omega) (by decide) (fun h_1 => ?_) (fun h_1 => ?_)
  · refine jblk hF [(.aload_n 0, 1)] (by decide +kernel) (pc' := 16) (lo' := [(0, (2, 3))]) (st' := [(2, 3)]) rfl ?_
    refine jget hF 12 1 0 1 rfl (by decide) (by decide) rfl wd_327 (by decide +kernel) (by exact hK.k3) ?_
    refine jiret hF hr (by decide +kernel) ?_
    exact lV (by (unfold knw; first | (rw [if_pos (by omega)]; omega) | (rw [if_neg (by omega)]; omega)))
  · refine jblk hF [(.aload_n 0, 1)] (by decide +kernel) (pc' := 9) (lo' := [(0, (2, 3))]) (st' := [(2, 3)]) rfl ?_
    refine jget hF 12 0 0 0 rfl (by decide) (by decide) rfl wd_326 (by decide +kernel) (by exact hK.k3) ?_
    refine jgoto hF (off := 7) 19 (by decide +kernel) (by decide) ?_
    refine jiret hF hr (by decide +kernel) ?_
    exact lV (by (unfold knw; first | (rw [if_pos (by omega)]; omega) | (rw [if_neg (by omega)]; omega)))
set_option maxHeartbeats 4000000 in
set_option maxRecDepth 100000 in
theorem c_X11_planAt {l : Launch} {g : GP} (hG : GH g) {kd : Int → Nat} {ln : Int → Int} {mem : Int → Int → Int} {sz : Nat} (hK : HK kd ln) (hR : HR mem) (t : Int) (tg : Int → Int) (hI : INV kd ln mem sz tg) (h_t : InI t) : MT l g yX11_planAt cX11_planAt 2 (some (.object "FigureHouse$Text")) 3 0 0 [(2, 3), (0, t)] kd ln mem sz (pR 2 (fun v => (0 ≤ v → (0 ≤ t ∧ t ≤ mem 35 16 - 1) ∧ PLNV kd ln mem sz tg t v) ∧ (v < 0 → ¬ (0 ≤ t ∧ t ≤ mem 35 16 - 1) ∧ v = -1)) kd ln mem sz) := by
  refine MT_of hG (by decide +kernel) (Nat.le_of_ble_eq_true rfl) (fun z hF hr hn => ?_)
  obtain ⟨⟨q0, q1, q2, q3, q4, q5⟩, u0, u2, u46, u89, usz⟩ := hI.num
  have n28 : 0 ≤ mem 35 16 ∧ mem 35 16 ≤ 12 := ⟨hI.pls.1, hI.pls.2⟩
  obtain ⟨e28, k28, r28, b28, c28⟩ := hI.g28.ls
  refine jblk hF [(.iload_n 1, 1), (.iconst 0, 1), (.aload_n 0, 1)] (by decide +kernel) (pc' := 3) (lo' := [(0, (2, 3)), (1, (0, t))]) (st' := [(2, 3), (0, 0), (0, t)]) rfl ?_
  refine jget hF 12 13 2 13 rfl (by decide) (by decide) rfl wd_339 (by decide +kernel) (by exact hK.k3) ?_
  rw [HR.r3_13 hR]
  refine jcallV hF (c_Jx4a65c_size_8abf5 hG 28 (by first | assumption | omega)) MW_Jx4a65c_size_8abf5 0 (by decide) (by exact hK.k28) wd_410 wd_411 wd_412 (by decide +kernel) [(0, 0), (0, t)] rfl rfl (by decide) (Nat.le_of_ble_eq_true rfl) (by decide) (kV ?_)
  rw [e28]
  refine jblk hF [(.iconst 1, 1), (.isub, 1)] (by decide +kernel) (pc' := 11) (lo' := [(0, (2, 3)), (1, (0, t))]) (st' := [(0, (mem 35 16) - 1), (0, 0), (0, t)]) rfl ?_
  refine jcallS hF (c_X11_within hG t 0 ((mem 35 16) - 1) (by omega) (by decide) (by omega)) MW_X11_within wd_391 wd_392 (by decide +kernel) [] rfl rfl (by decide) (Nat.le_of_ble_eq_true rfl) (by decide) (kB (fun h_1 => ?_) (fun h_1 => ?_))
  · refine jif_eq hF (off := 17) 31 (by decide +kernel) (by decide) (by decide) (fun h => absurd h (by decide)) (fun _ => ?_)
    refine jblk hF [(.aload_n 0, 1)] (by decide +kernel) (pc' := 18) (lo' := [(0, (2, 3)), (1, (0, t))]) (st' := [(2, 3)]) rfl ?_
    refine jget hF 12 13 2 13 rfl (by decide) (by decide) rfl wd_339 (by decide +kernel) (by exact hK.k3) ?_
    rw [HR.r3_13 hR]
    refine jblk hF [(.iload_n 1, 1)] (by decide +kernel) (pc' := 22) (lo' := [(0, (2, 3)), (1, (0, t))]) (st' := [(0, t), (2, 28)]) rfl ?_
    refine jcallV hF (c_Jx4a65c_get_915e3 hG 28 t (by first | assumption | omega) (by first | assumption | omega) (by omega)) MW_Jx4a65c_get_915e3 0 (by decide) (by exact hK.k28) wd_498 wd_499 wd_500 (by decide +kernel) [] rfl rfl (by decide) (Nat.le_of_ble_eq_true rfl) (by decide) (kV ?_)
    have hob := hI.pln (t := t) (by omega) (by omega)
    have hk := hob.1
    have ho := hob.2.1.1
    refine jcast hF 11 (by decide) wd_138 (by decide +kernel) (by first | assumption | omega) ?_
    refine jgoto hF (off := 4) 32 (by decide +kernel) (by decide) ?_
    refine jaret hF hr (Or.inl ⟨_, rfl⟩) (by decide +kernel) ?_
    exact lR (by first | exact ⟨fun _ => ⟨by omega, hob⟩, fun w => by omega⟩ | exact ⟨fun w => by omega, fun _ => ⟨by omega, rfl⟩⟩)
  · refine jif_eq hF (off := 17) 31 (by decide +kernel) (by decide) (by decide) (fun _ => ?_) (fun h => absurd h (by decide))
    refine jblk hF [(.aconst_null, 1)] (by decide +kernel) (pc' := 32) (lo' := [(0, (2, 3)), (1, (0, t))]) (st' := [(2, (-1))]) rfl ?_
    refine jaret hF hr (Or.inl ⟨_, rfl⟩) (by decide +kernel) ?_
    exact lR (by first | exact ⟨fun _ => ⟨by omega, hob⟩, fun w => by omega⟩ | exact ⟨fun w => by omega, fun _ => ⟨by omega, rfl⟩⟩)
set_option maxHeartbeats 4000000 in
set_option maxRecDepth 100000 in
theorem c_X11_pageAt {l : Launch} {g : GP} (hG : GH g) {kd : Int → Nat} {ln : Int → Int} {mem : Int → Int → Int} {sz : Nat} (hK : HK kd ln) (hR : HR mem) (p : Int) (tg : Int → Int) (hI : INV kd ln mem sz tg) (h_p : InI p) : MT l g yX11_pageAt cX11_pageAt 2 (some (.object "FigureHouse$Page")) 3 0 0 [(2, 3), (0, p)] kd ln mem sz (pR 2 (fun v => (0 ≤ v → isPg mem p ∧ PAGV kd ln mem sz tg p v) ∧ (v < 0 → ¬ isPg mem p ∧ v = -1)) kd ln mem sz) := by
  refine MT_of hG (by decide +kernel) (Nat.le_of_ble_eq_true rfl) (fun z hF hr hn => ?_)
  obtain ⟨⟨q0, q1, q2, q3, q4, q5⟩, u0, u2, u46, u89, usz⟩ := hI.num
  have n29 : 0 ≤ mem 35 33 ∧ mem 35 33 ≤ 12 := ⟨hI.pgs.1, hI.pgs.2.1⟩
  obtain ⟨e29, k29, r29, b29, c29⟩ := hI.g29.ls
  refine jblk hF [(.iload_n 1, 1), (.iconst 0, 1), (.aload_n 0, 1)] (by decide +kernel) (pc' := 3) (lo' := [(0, (2, 3)), (1, (0, p))]) (st' := [(2, 3), (0, 0), (0, p)]) rfl ?_
  refine jget hF 12 14 2 14 rfl (by decide) (by decide) rfl wd_340 (by decide +kernel) (by exact hK.k3) ?_
  rw [HR.r3_14 hR]
  refine jcallV hF (c_Jx4a65c_size_8abf5 hG 29 (by first | assumption | omega)) MW_Jx4a65c_size_8abf5 0 (by decide) (by exact hK.k29) wd_410 wd_411 wd_412 (by decide +kernel) [(0, 0), (0, p)] rfl rfl (by decide) (Nat.le_of_ble_eq_true rfl) (by decide) (kV ?_)
  rw [e29]
  refine jblk hF [(.iconst 1, 1), (.isub, 1)] (by decide +kernel) (pc' := 11) (lo' := [(0, (2, 3)), (1, (0, p))]) (st' := [(0, (mem 35 33) - 1), (0, 0), (0, p)]) rfl ?_
  refine jcallS hF (c_X11_within hG p 0 ((mem 35 33) - 1) (by omega) (by decide) (by omega)) MW_X11_within wd_391 wd_392 (by decide +kernel) [] rfl rfl (by decide) (Nat.le_of_ble_eq_true rfl) (by decide) (kB (fun h_1 => ?_) (fun h_1 => ?_))
  · refine jif_eq hF (off := 17) 31 (by decide +kernel) (by decide) (by decide) (fun h => absurd h (by decide)) (fun _ => ?_)
    refine jblk hF [(.aload_n 0, 1)] (by decide +kernel) (pc' := 18) (lo' := [(0, (2, 3)), (1, (0, p))]) (st' := [(2, 3)]) rfl ?_
    refine jget hF 12 14 2 14 rfl (by decide) (by decide) rfl wd_340 (by decide +kernel) (by exact hK.k3) ?_
    rw [HR.r3_14 hR]
    refine jblk hF [(.iload_n 1, 1)] (by decide +kernel) (pc' := 22) (lo' := [(0, (2, 3)), (1, (0, p))]) (st' := [(0, p), (2, 29)]) rfl ?_
    refine jcallV hF (c_Jx4a65c_get_915e3 hG 29 p (by first | assumption | omega) (by first | assumption | omega) (by omega)) MW_Jx4a65c_get_915e3 0 (by decide) (by exact hK.k29) wd_498 wd_499 wd_500 (by decide +kernel) [] rfl rfl (by decide) (Nat.le_of_ble_eq_true rfl) (by decide) (kV ?_)
    have hob := hI.pag (p := p) (by omega) (by omega)
    have hk := hob.at.1
    have ho := hob.at.2.1
    refine jcast hF 4 (by decide) wd_688 (by decide +kernel) (by first | assumption | omega) ?_
    refine jgoto hF (off := 4) 32 (by decide +kernel) (by decide) ?_
    refine jaret hF hr (Or.inl ⟨_, rfl⟩) (by decide +kernel) ?_
    exact lR (by first | exact ⟨fun _ => ⟨by omega, hob⟩, fun w => by omega⟩ | exact ⟨fun w => by omega, fun _ => ⟨by omega, rfl⟩⟩)
  · refine jif_eq hF (off := 17) 31 (by decide +kernel) (by decide) (by decide) (fun _ => ?_) (fun h => absurd h (by decide))
    refine jblk hF [(.aconst_null, 1)] (by decide +kernel) (pc' := 32) (lo' := [(0, (2, 3)), (1, (0, p))]) (st' := [(2, (-1))]) rfl ?_
    refine jaret hF hr (Or.inl ⟨_, rfl⟩) (by decide +kernel) ?_
    exact lR (by first | exact ⟨fun _ => ⟨by omega, hob⟩, fun w => by omega⟩ | exact ⟨fun w => by omega, fun _ => ⟨by omega, rfl⟩⟩)
set_option maxHeartbeats 4000000 in
set_option maxRecDepth 100000 in
theorem c_X11_sheetAt {l : Launch} {g : GP} (hG : GH g) {kd : Int → Nat} {ln : Int → Int} {mem : Int → Int → Int} {sz : Nat} (hK : HK kd ln) (hR : HR mem) (s : Int) (tg : Int → Int) (hI : INV kd ln mem sz tg) (h_s : InI s) : MT l g yX11_sheetAt cX11_sheetAt 2 (some (.object "FigureHouse$Sheet")) 3 0 0 [(2, 3), (0, s)] kd ln mem sz (pR 2 (fun v => (0 ≤ v → isSh mem s ∧ SHTV kd ln mem sz tg s v) ∧ (v < 0 → ¬ isSh mem s ∧ v = -1)) kd ln mem sz) := by
  refine MT_of hG (by decide +kernel) (Nat.le_of_ble_eq_true rfl) (fun z hF hr hn => ?_)
  obtain ⟨⟨q0, q1, q2, q3, q4, q5⟩, u0, u2, u46, u89, usz⟩ := hI.num
  have n34 : 0 ≤ mem 35 88 ∧ mem 35 88 ≤ 8 := ⟨hI.shs.1, hI.shs.2.1⟩
  obtain ⟨e34, k34, r34, b34, c34⟩ := hI.g34.ls
  refine jblk hF [(.iload_n 1, 1), (.iconst 0, 1), (.aload_n 0, 1)] (by decide +kernel) (pc' := 3) (lo' := [(0, (2, 3)), (1, (0, s))]) (st' := [(2, 3), (0, 0), (0, s)]) rfl ?_
  refine jget hF 12 19 2 19 rfl (by decide) (by decide) rfl wd_345 (by decide +kernel) (by exact hK.k3) ?_
  rw [HR.r3_19 hR]
  refine jcallV hF (c_Jx4a65c_size_8abf5 hG 34 (by first | assumption | omega)) MW_Jx4a65c_size_8abf5 0 (by decide) (by exact hK.k34) wd_410 wd_411 wd_412 (by decide +kernel) [(0, 0), (0, s)] rfl rfl (by decide) (Nat.le_of_ble_eq_true rfl) (by decide) (kV ?_)
  rw [e34]
  refine jblk hF [(.iconst 1, 1), (.isub, 1)] (by decide +kernel) (pc' := 11) (lo' := [(0, (2, 3)), (1, (0, s))]) (st' := [(0, (mem 35 88) - 1), (0, 0), (0, s)]) rfl ?_
  refine jcallS hF (c_X11_within hG s 0 ((mem 35 88) - 1) (by omega) (by decide) (by omega)) MW_X11_within wd_391 wd_392 (by decide +kernel) [] rfl rfl (by decide) (Nat.le_of_ble_eq_true rfl) (by decide) (kB (fun h_1 => ?_) (fun h_1 => ?_))
  · refine jif_eq hF (off := 17) 31 (by decide +kernel) (by decide) (by decide) (fun h => absurd h (by decide)) (fun _ => ?_)
    refine jblk hF [(.aload_n 0, 1)] (by decide +kernel) (pc' := 18) (lo' := [(0, (2, 3)), (1, (0, s))]) (st' := [(2, 3)]) rfl ?_
    refine jget hF 12 19 2 19 rfl (by decide) (by decide) rfl wd_345 (by decide +kernel) (by exact hK.k3) ?_
    rw [HR.r3_19 hR]
    refine jblk hF [(.iload_n 1, 1)] (by decide +kernel) (pc' := 22) (lo' := [(0, (2, 3)), (1, (0, s))]) (st' := [(0, s), (2, 34)]) rfl ?_
    refine jcallV hF (c_Jx4a65c_get_915e3 hG 34 s (by first | assumption | omega) (by first | assumption | omega) (by omega)) MW_Jx4a65c_get_915e3 0 (by decide) (by exact hK.k34) wd_498 wd_499 wd_500 (by decide +kernel) [] rfl rfl (by decide) (Nat.le_of_ble_eq_true rfl) (by decide) (kV ?_)
    have hob := hI.sht (s := s) (by omega) (by omega)
    have hk := hob.1
    have ho := hob.2.1.1
    refine jcast hF 8 (by decide) wd_1235 (by decide +kernel) (by first | assumption | omega) ?_
    refine jgoto hF (off := 4) 32 (by decide +kernel) (by decide) ?_
    refine jaret hF hr (Or.inl ⟨_, rfl⟩) (by decide +kernel) ?_
    exact lR (by first | exact ⟨fun _ => ⟨by omega, hob⟩, fun w => by omega⟩ | exact ⟨fun w => by omega, fun _ => ⟨by omega, rfl⟩⟩)
  · refine jif_eq hF (off := 17) 31 (by decide +kernel) (by decide) (by decide) (fun _ => ?_) (fun h => absurd h (by decide))
    refine jblk hF [(.aconst_null, 1)] (by decide +kernel) (pc' := 32) (lo' := [(0, (2, 3)), (1, (0, s))]) (st' := [(2, (-1))]) rfl ?_
    refine jaret hF hr (Or.inl ⟨_, rfl⟩) (by decide +kernel) ?_
    exact lR (by first | exact ⟨fun _ => ⟨by omega, hob⟩, fun w => by omega⟩ | exact ⟨fun w => by omega, fun _ => ⟨by omega, rfl⟩⟩)
set_option maxHeartbeats 4000000 in
set_option maxRecDepth 100000 in
theorem c_X11_curveAt {l : Launch} {g : GP} (hG : GH g) {kd : Int → Nat} {ln : Int → Int} {mem : Int → Int → Int} {sz : Nat} (hK : HK kd ln) (hR : HR mem) (f x p : Int) (tg : Int → Int) (hI : INV kd ln mem sz tg) (h_f : InI f) (h_x : InI x) (h_p : InI p) : MT l g yX11_curveAt cX11_curveAt 5 (some (.object "FigureHouse$Curve")) 3 0 0 [(2, 3), (0, f), (0, x), (0, p)] kd ln mem sz (pR 2 (fun v => (0 ≤ v → fnA mem f x p ∧ CURV kd mem sz f v) ∧ (v < 0 → ¬ fnA mem f x p ∧ v = -1)) kd ln mem sz) := by
  refine MT_of hG (by decide +kernel) (Nat.le_of_ble_eq_true rfl) (fun z hF hr hn => ?_)
  obtain ⟨⟨q0, q1, q2, q3, q4, q5⟩, u0, u2, u46, u89, usz⟩ := hI.num
  have n27 : 0 ≤ mem 35 6 ∧ mem 35 6 ≤ 10 := ⟨hI.fns.1, hI.fns.2.1⟩
  obtain ⟨e27, k27, r27, b27, c27⟩ := hI.g27.ls
  refine jblk hF [(.iload_n 1, 1), (.iconst 0, 1), (.aload_n 0, 1)] (by decide +kernel) (pc' := 3) (lo' := [(0, (2, 3)), (1, (0, f)), (2, (0, x)), (3, (0, p))]) (st' := [(2, 3), (0, 0), (0, f)]) rfl ?_
  refine jget hF 12 12 2 12 rfl (by decide) (by decide) rfl wd_338 (by decide +kernel) (by exact hK.k3) ?_
  rw [HR.r3_12 hR]
  refine jcallV hF (c_Jx4a65c_size_8abf5 hG 27 (by first | assumption | omega)) MW_Jx4a65c_size_8abf5 0 (by decide) (by exact hK.k27) wd_410 wd_411 wd_412 (by decide +kernel) [(0, 0), (0, f)] rfl rfl (by decide) (Nat.le_of_ble_eq_true rfl) (by decide) (kV ?_)
  rw [e27]
  refine jblk hF [(.iconst 1, 1), (.isub, 1)] (by decide +kernel) (pc' := 11) (lo' := [(0, (2, 3)), (1, (0, f)), (2, (0, x)), (3, (0, p))]) (st' := [(0, (mem 35 6) - 1), (0, 0), (0, f)]) rfl ?_
  refine jcallS hF (c_X11_within hG f 0 ((mem 35 6) - 1) (by omega) (by decide) (by omega)) MW_X11_within wd_391 wd_392 (by decide +kernel) [] rfl rfl (by decide) (Nat.le_of_ble_eq_true rfl) (by decide) (kB (fun h_1 => ?_) (fun h_1 => ?_))
  · refine jif_eq hF (off := 28) 42 (by decide +kernel) (by decide) (by decide) (fun h => absurd h (by decide)) (fun _ => ?_)
    refine jblk hF [(.iload_n 2, 1), (.iconst 1, 1), (.sipush 9999, 3)] (by decide +kernel) (pc' := 22) (lo' := [(0, (2, 3)), (1, (0, f)), (2, (0, x)), (3, (0, p))]) (st' := [(0, 9999), (0, 1), (0, x)]) rfl ?_
    refine jcallS hF (c_X11_within hG x 1 9999 (by omega) (by decide) (by decide)) MW_X11_within wd_391 wd_392 (by decide +kernel) [] rfl rfl (by decide) (Nat.le_of_ble_eq_true rfl) (by decide) (kB (fun h_3 => ?_) (fun h_3 => ?_))
    · refine jif_eq hF (off := 17) 42 (by decide +kernel) (by decide) (by decide) (fun h => absurd h (by decide)) (fun _ => ?_)
      refine jblk hF [(.iload_n 3, 1), (.iconst 0, 1), (.bipush 6, 2)] (by decide +kernel) (pc' := 32) (lo' := [(0, (2, 3)), (1, (0, f)), (2, (0, x)), (3, (0, p))]) (st' := [(0, 6), (0, 0), (0, p)]) rfl ?_
      refine jcallS hF (c_X11_within hG p 0 6 (by omega) (by decide) (by decide)) MW_X11_within wd_391 wd_392 (by decide +kernel) [] rfl rfl (by decide) (Nat.le_of_ble_eq_true rfl) (by decide) (kB (fun h_5 => ?_) (fun h_5 => ?_))
      · refine jif_eq hF (off := 7) 42 (by decide +kernel) (by decide) (by decide) (fun h => absurd h (by decide)) (fun _ => ?_)
        refine jblk hF [(.iconst 1, 1)] (by decide +kernel) (pc' := 39) (lo' := [(0, (2, 3)), (1, (0, f)), (2, (0, x)), (3, (0, p))]) (st' := [(0, 1)]) rfl ?_
        refine jgoto hF (off := 4) 43 (by decide +kernel) (by decide) ?_
        refine jblk hF [(.istore 4, 2), (.iload 4, 2)] (by decide +kernel) (pc' := 47) (lo' := [(4, (0, 1)), (0, (2, 3)), (1, (0, f)), (2, (0, x)), (3, (0, p))]) (st' := [(0, 1)]) rfl ?_
        refine jif_eq hF (off := 17) 64 (by decide +kernel) (by decide) (by decide) (fun h => absurd h (by decide)) (fun _ => ?_)
        refine jblk hF [(.aload_n 0, 1)] (by decide +kernel) (pc' := 51) (lo' := [(4, (0, 1)), (0, (2, 3)), (1, (0, f)), (2, (0, x)), (3, (0, p))]) (st' := [(2, 3)]) rfl ?_
        refine jget hF 12 12 2 12 rfl (by decide) (by decide) rfl wd_338 (by decide +kernel) (by exact hK.k3) ?_
        rw [HR.r3_12 hR]
        refine jblk hF [(.iload_n 1, 1)] (by decide +kernel) (pc' := 55) (lo' := [(4, (0, 1)), (0, (2, 3)), (1, (0, f)), (2, (0, x)), (3, (0, p))]) (st' := [(0, f), (2, 27)]) rfl ?_
        refine jcallV hF (c_Jx4a65c_get_915e3 hG 27 f (by first | assumption | omega) (by first | assumption | omega) (by omega)) MW_Jx4a65c_get_915e3 0 (by decide) (by exact hK.k27) wd_498 wd_499 wd_500 (by decide +kernel) [] rfl rfl (by decide) (Nat.le_of_ble_eq_true rfl) (by decide) (kV ?_)
        have hob := hI.cur (f := f) (by omega) (by omega)
        have hk := hob.1
        have ho := hob.2.1
        refine jcast hF 1 (by decide) wd_414 (by decide +kernel) (by first | assumption | omega) ?_
        refine jgoto hF (off := 4) 65 (by decide +kernel) (by decide) ?_
        refine jaret hF hr (Or.inl ⟨_, rfl⟩) (by decide +kernel) ?_
        exact lR (by first | exact ⟨fun _ => ⟨by omega, hob⟩, fun w => by omega⟩ | exact ⟨fun w => by omega, fun _ => ⟨by omega, rfl⟩⟩)
      · refine jif_eq hF (off := 7) 42 (by decide +kernel) (by decide) (by decide) (fun _ => ?_) (fun h => absurd h (by decide))
        refine jblk hF [(.iconst 0, 1), (.istore 4, 2), (.iload 4, 2)] (by decide +kernel) (pc' := 47) (lo' := [(4, (0, 0)), (0, (2, 3)), (1, (0, f)), (2, (0, x)), (3, (0, p))]) (st' := [(0, 0)]) rfl ?_
        refine jif_eq hF (off := 17) 64 (by decide +kernel) (by decide) (by decide) (fun _ => ?_) (fun h => absurd h (by decide))
        refine jblk hF [(.aconst_null, 1)] (by decide +kernel) (pc' := 65) (lo' := [(4, (0, 0)), (0, (2, 3)), (1, (0, f)), (2, (0, x)), (3, (0, p))]) (st' := [(2, (-1))]) rfl ?_
        refine jaret hF hr (Or.inl ⟨_, rfl⟩) (by decide +kernel) ?_
        exact lR (by first | exact ⟨fun _ => ⟨by omega, hob⟩, fun w => by omega⟩ | exact ⟨fun w => by omega, fun _ => ⟨by omega, rfl⟩⟩)
    · refine jif_eq hF (off := 17) 42 (by decide +kernel) (by decide) (by decide) (fun _ => ?_) (fun h => absurd h (by decide))
      refine jblk hF [(.iconst 0, 1), (.istore 4, 2), (.iload 4, 2)] (by decide +kernel) (pc' := 47) (lo' := [(4, (0, 0)), (0, (2, 3)), (1, (0, f)), (2, (0, x)), (3, (0, p))]) (st' := [(0, 0)]) rfl ?_
      refine jif_eq hF (off := 17) 64 (by decide +kernel) (by decide) (by decide) (fun _ => ?_) (fun h => absurd h (by decide))
      refine jblk hF [(.aconst_null, 1)] (by decide +kernel) (pc' := 65) (lo' := [(4, (0, 0)), (0, (2, 3)), (1, (0, f)), (2, (0, x)), (3, (0, p))]) (st' := [(2, (-1))]) rfl ?_
      refine jaret hF hr (Or.inl ⟨_, rfl⟩) (by decide +kernel) ?_
      exact lR (by first | exact ⟨fun _ => ⟨by omega, hob⟩, fun w => by omega⟩ | exact ⟨fun w => by omega, fun _ => ⟨by omega, rfl⟩⟩)
  · refine jif_eq hF (off := 28) 42 (by decide +kernel) (by decide) (by decide) (fun _ => ?_) (fun h => absurd h (by decide))
    refine jblk hF [(.iconst 0, 1), (.istore 4, 2), (.iload 4, 2)] (by decide +kernel) (pc' := 47) (lo' := [(4, (0, 0)), (0, (2, 3)), (1, (0, f)), (2, (0, x)), (3, (0, p))]) (st' := [(0, 0)]) rfl ?_
    refine jif_eq hF (off := 17) 64 (by decide +kernel) (by decide) (by decide) (fun _ => ?_) (fun h => absurd h (by decide))
    refine jblk hF [(.aconst_null, 1)] (by decide +kernel) (pc' := 65) (lo' := [(4, (0, 0)), (0, (2, 3)), (1, (0, f)), (2, (0, x)), (3, (0, p))]) (st' := [(2, (-1))]) rfl ?_
    refine jaret hF hr (Or.inl ⟨_, rfl⟩) (by decide +kernel) ?_
    exact lR (by first | exact ⟨fun _ => ⟨by omega, hob⟩, fun w => by omega⟩ | exact ⟨fun w => by omega, fun _ => ⟨by omega, rfl⟩⟩)
set_option maxHeartbeats 4000000 in
set_option maxRecDepth 100000 in
theorem c_X11_pageWith {l : Launch} {g : GP} (hG : GH g) {kd : Int → Nat} {ln : Int → Int} {mem : Int → Int → Int} {sz : Nat} (hK : HK kd ln) (hR : HR mem) (p n : Int) (tg : Int → Int) (hI : INV kd ln mem sz tg) (h_p : InI p) (h_n : InI n) : MT l g yX11_pageWith cX11_pageWith 4 (some (.object "FigureHouse$Page")) 4 0 0 [(2, 3), (0, p), (0, n)] kd ln mem sz (pR 2 (fun v => (0 ≤ v → isLn mem p n ∧ PAGV kd ln mem sz tg p v) ∧ (v < 0 → ¬ isLn mem p n ∧ v = -1)) kd ln mem sz) := by
  refine MT_of hG (by decide +kernel) (Nat.le_of_ble_eq_true rfl) (fun z hF hr hn => ?_)
  obtain ⟨⟨q0, q1, q2, q3, q4, q5⟩, u0, u2, u46, u89, usz⟩ := hI.num
  have n29 : 0 ≤ mem 35 33 ∧ mem 35 33 ≤ 12 := ⟨hI.pgs.1, hI.pgs.2.1⟩
  obtain ⟨e29, k29, r29, b29, c29⟩ := hI.g29.ls
  refine jblk hF [(.aload_n 0, 1), (.iload_n 1, 1)] (by decide +kernel) (pc' := 2) (lo' := [(0, (2, 3)), (1, (0, p)), (2, (0, n))]) (st' := [(0, p), (2, 3)]) rfl ?_
  refine jcallV hF (c_X11_pageAt hG hK hR p (by exact tg) (by assumption) (by omega)) MW_X11_pageAt 12 (by decide) (by exact hK.k3) wd_851 wd_853 wd_p24 (by decide +kernel) [] rfl rfl (by decide) (Nat.le_of_ble_eq_true rfl) (by decide) (kR (fun v_1 h_2 => ?_))
  have hv := h_2
  refine jblk hF [(.astore_n 3, 1), (.aload_n 3, 1)] (by decide +kernel) (pc' := 7) (lo' := [(3, (2, v_1)), (0, (2, 3)), (1, (0, p)), (2, (0, n))]) (st' := [(2, v_1)]) rfl ?_
  refine jnull hF (off := 15) 22 (by decide +kernel) (by decide) (fun h_3 => ?_) (fun h_3 => ?_)
  · refine jblk hF [(.aconst_null, 1)] (by decide +kernel) (pc' := 23) (lo' := [(3, (2, v_1)), (0, (2, 3)), (1, (0, p)), (2, (0, n))]) (st' := [(2, (-1))]) rfl ?_
    refine jaret hF hr (Or.inl ⟨_, rfl⟩) (by decide +kernel) ?_
    exact lR (by first | exact ⟨fun _ => ⟨by omega, hob⟩, fun w => by omega⟩ | (refine ⟨fun w => by omega, fun _ => ⟨fun w => ?_, rfl⟩⟩; first | exact (hv.2 (by omega)).1 w.1 | omega))
  · obtain ⟨hpg, hob⟩ := hv.1 (by omega)
    have hk := hob.at.1
    have ho := hob.at.2.1
    have hpb := hob.pb
    have hn2 := hob.nm.2.2.1
    refine jblk hF [(.aload_n 3, 1), (.iload_n 2, 1)] (by decide +kernel) (pc' := 12) (lo' := [(3, (2, v_1)), (0, (2, 3)), (1, (0, p)), (2, (0, n))]) (st' := [(0, n), (2, v_1)]) rfl ?_
    refine jcallV hF (c_X3_hasLine hG v_1 n (by first | assumption | omega) (by omega) (by omega) (by omega)) MW_X3_hasLine 4 (by decide) (by first | assumption | omega) wd_873 wd_874 wd_875 (by decide +kernel) [] rfl rfl (by decide) (Nat.le_of_ble_eq_true rfl) (by decide) (kB (fun h_4 => ?_) (fun h_4 => ?_))
    · refine jif_eq hF (off := 7) 22 (by decide +kernel) (by decide) (by decide) (fun h => absurd h (by decide)) (fun _ => ?_)
      refine jblk hF [(.aload_n 3, 1)] (by decide +kernel) (pc' := 19) (lo' := [(3, (2, v_1)), (0, (2, 3)), (1, (0, p)), (2, (0, n))]) (st' := [(2, v_1)]) rfl ?_
      refine jgoto hF (off := 4) 23 (by decide +kernel) (by decide) ?_
      refine jaret hF hr (Or.inl ⟨_, rfl⟩) (by decide +kernel) ?_
      exact lR (by first | exact ⟨fun _ => ⟨by omega, hob⟩, fun w => by omega⟩ | (refine ⟨fun w => by omega, fun _ => ⟨fun w => ?_, rfl⟩⟩; first | exact (hv.2 (by omega)).1 w.1 | omega))
    · refine jif_eq hF (off := 7) 22 (by decide +kernel) (by decide) (by decide) (fun _ => ?_) (fun h => absurd h (by decide))
      refine jblk hF [(.aconst_null, 1)] (by decide +kernel) (pc' := 23) (lo' := [(3, (2, v_1)), (0, (2, 3)), (1, (0, p)), (2, (0, n))]) (st' := [(2, (-1))]) rfl ?_
      refine jaret hF hr (Or.inl ⟨_, rfl⟩) (by decide +kernel) ?_
      exact lR (by first | exact ⟨fun _ => ⟨by omega, hob⟩, fun w => by omega⟩ | (refine ⟨fun w => by omega, fun _ => ⟨fun w => ?_, rfl⟩⟩; first | exact (hv.2 (by omega)).1 w.1 | omega))
set_option maxHeartbeats 4000000 in
set_option maxRecDepth 100000 in
theorem c_X11_plateWith {l : Launch} {g : GP} (hG : GH g) {kd : Int → Nat} {ln : Int → Int} {mem : Int → Int → Int} {sz : Nat} (hK : HK kd ln) (hR : HR mem) (p n : Int) (tg : Int → Int) (hI : INV kd ln mem sz tg) (h_p : InI p) (h_n : InI n) : MT l g yX11_plateWith cX11_plateWith 4 (some (.object "FigureHouse$Page")) 5 0 0 [(2, 3), (0, p), (0, n)] kd ln mem sz (pR 2 (fun v => (0 ≤ v → (isLn mem p n ∧ mem 82 p = 1) ∧ PAGV kd ln mem sz tg p v) ∧ (v < 0 → ¬ (isLn mem p n ∧ mem 82 p = 1) ∧ v = -1)) kd ln mem sz) := by
  refine MT_of hG (by decide +kernel) (Nat.le_of_ble_eq_true rfl) (fun z hF hr hn => ?_)
  obtain ⟨⟨q0, q1, q2, q3, q4, q5⟩, u0, u2, u46, u89, usz⟩ := hI.num
  have n29 : 0 ≤ mem 35 33 ∧ mem 35 33 ≤ 12 := ⟨hI.pgs.1, hI.pgs.2.1⟩
  obtain ⟨e29, k29, r29, b29, c29⟩ := hI.g29.ls
  refine jblk hF [(.aload_n 0, 1), (.iload_n 1, 1), (.iload_n 2, 1)] (by decide +kernel) (pc' := 3) (lo' := [(0, (2, 3)), (1, (0, p)), (2, (0, n))]) (st' := [(0, n), (0, p), (2, 3)]) rfl ?_
  refine jcallV hF (c_X11_pageWith hG hK hR p n (by exact tg) (by assumption) (by omega) (by omega)) MW_X11_pageWith 12 (by decide) (by exact hK.k3) wd_869 wd_871 wd_p25 (by decide +kernel) [] rfl rfl (by decide) (Nat.le_of_ble_eq_true rfl) (by decide) (kR (fun v_1 h_2 => ?_))
  have hv := h_2
  refine jblk hF [(.astore_n 3, 1), (.aload_n 3, 1)] (by decide +kernel) (pc' := 8) (lo' := [(3, (2, v_1)), (0, (2, 3)), (1, (0, p)), (2, (0, n))]) (st' := [(2, v_1)]) rfl ?_
  refine jnull hF (off := 14) 22 (by decide +kernel) (by decide) (fun h_3 => ?_) (fun h_3 => ?_)
  · refine jblk hF [(.aconst_null, 1)] (by decide +kernel) (pc' := 23) (lo' := [(3, (2, v_1)), (0, (2, 3)), (1, (0, p)), (2, (0, n))]) (st' := [(2, (-1))]) rfl ?_
    refine jaret hF hr (Or.inl ⟨_, rfl⟩) (by decide +kernel) ?_
    exact lR (by first | exact ⟨fun _ => ⟨⟨hpg, hst.mp (by omega)⟩, hob⟩, fun w => by omega⟩ | (refine ⟨fun w => by omega, fun _ => ⟨fun w => ?_, rfl⟩⟩; first | exact (hv.2 (by omega)).1 w.1 | (have := hst.mpr w.2; omega)))
  · obtain ⟨hpg, hob⟩ := hv.1 (by omega)
    have hk := hob.at.1
    have ho := hob.at.2.1
    have hst : 0 ≤ mem v_1 17 ↔ mem 82 p = 1 := hob.set
    refine jblk hF [(.aload_n 3, 1)] (by decide +kernel) (pc' := 12) (lo' := [(3, (2, v_1)), (0, (2, 3)), (1, (0, p)), (2, (0, n))]) (st' := [(2, v_1)]) rfl ?_
    refine jcallV hF (c_X3_isSet hG v_1 (by first | assumption | omega) (by omega)) MW_X3_isSet 4 (by decide) (by first | assumption | omega) wd_1139 wd_1140 wd_1141 (by decide +kernel) [] rfl rfl (by decide) (Nat.le_of_ble_eq_true rfl) (by decide) (kB (fun h_4 => ?_) (fun h_4 => ?_))
    · refine jif_eq hF (off := 7) 22 (by decide +kernel) (by decide) (by decide) (fun h => absurd h (by decide)) (fun _ => ?_)
      refine jblk hF [(.aload_n 3, 1)] (by decide +kernel) (pc' := 19) (lo' := [(3, (2, v_1)), (0, (2, 3)), (1, (0, p)), (2, (0, n))]) (st' := [(2, v_1)]) rfl ?_
      refine jgoto hF (off := 4) 23 (by decide +kernel) (by decide) ?_
      refine jaret hF hr (Or.inl ⟨_, rfl⟩) (by decide +kernel) ?_
      exact lR (by first | exact ⟨fun _ => ⟨⟨hpg, hst.mp (by omega)⟩, hob⟩, fun w => by omega⟩ | (refine ⟨fun w => by omega, fun _ => ⟨fun w => ?_, rfl⟩⟩; first | exact (hv.2 (by omega)).1 w.1 | (have := hst.mpr w.2; omega)))
    · refine jif_eq hF (off := 7) 22 (by decide +kernel) (by decide) (by decide) (fun _ => ?_) (fun h => absurd h (by decide))
      refine jblk hF [(.aconst_null, 1)] (by decide +kernel) (pc' := 23) (lo' := [(3, (2, v_1)), (0, (2, 3)), (1, (0, p)), (2, (0, n))]) (st' := [(2, (-1))]) rfl ?_
      refine jaret hF hr (Or.inl ⟨_, rfl⟩) (by decide +kernel) ?_
      exact lR (by first | exact ⟨fun _ => ⟨⟨hpg, hst.mp (by omega)⟩, hob⟩, fun w => by omega⟩ | (refine ⟨fun w => by omega, fun _ => ⟨fun w => ?_, rfl⟩⟩; first | exact (hv.2 (by omega)).1 w.1 | (have := hst.mpr w.2; omega)))
end
