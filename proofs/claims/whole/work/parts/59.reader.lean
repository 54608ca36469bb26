section
/-- a state's bounds -/
def RB (L : Int) (rr : PR) : Prop := InI rr.1 ∧ (rr.1 = -1 → 0 ≤ rr.2.1 ∧ rr.2.1 ≤ L)
theorem RB.sk {T : Int → Int} {L : Int} {rr : PR} (h : RB L rr) : RB L (skR T L rr) := by
  refine ⟨by rw [skR_1]; exact h.1, fun e => ?_⟩
  rw [skR_1] at e
  rw [skR_in e]
  have h2 := h.2 e
  have h3 := skp_f T L rr.2.1
  have h4 := h3.2.1 h2.2
  show 0 ≤ skp T L rr.2.1 ∧ skp T L rr.2.1 ≤ L
  omega
theorem RB.gd {T : Int → Int} {L a0 : Int} {rr : PR} (h : GD T L a0 rr) (h0 : 0 ≤ a0) (hL : L ≤ 160) : RB L rr := by
  refine ⟨?_, fun e => ?_⟩
  · by_cases e : rr.1 = -1
    · rw [e]; exact ⟨by decide, by decide⟩
    · have := h.2 e
      exact ⟨by omega, by omega⟩
  · have h1 := (h.1 e).1
    have h2 := (h.1 e).2.1
    omega
theorem RES.wI {L : Int} {mem mm : Int → Int → Int} {rr : PR} {v : Int} (h : RES mem mm rr v) (hb : RB L rr) : InI (mm 7 2) := by rw [h.w]; exact hb.1
theorem RES.aB {L : Int} {mem mm : Int → Int → Int} {rr : PR} {v : Int} (h : RES mem mm rr v) (hb : RB L rr) : mm 7 2 = -1 → 0 ≤ mm 7 1 ∧ mm 7 1 ≤ L + 1 := by
  intro e
  rw [h.w] at e
  rw [h.a e]
  have := hb.2 e
  omega
/-- the loop's state -/
def LPS (T : Int → Int) (L : Int) (op : Int → Bool) (sub : Int → PR) (tg : Int → PR) (mem mm : Int → Int → Int) (k : Nat) (rr : PR) (v : Int) : Prop := RES mem mm rr v ∧ (mem 7 2 = -1 → OPJ T L op sub (mem 7 1) (tg (mem 7 1)) k rr) ∧ (mem 7 2 ≠ -1 → rr.1 = mem 7 2)
theorem LPS.rb {T : Int → Int} {L : Int} {op : Int → Bool} {sub tg : Int → PR} {mem mm : Int → Int → Int} {k : Nat} {rr : PR} {v : Int} (h : LPS T L op sub tg mem mm k rr v) (ha : mem 7 2 = -1 → 0 ≤ mem 7 1 ∧ mem 7 1 ≤ L) (hw : InI (mem 7 2)) (hL : L ≤ 160) : RB L rr := by
  by_cases e : mem 7 2 = -1
  · exact RB.gd (h.2.1 e).1 (ha e).1 hL
  · have e2 := h.2.2 e
    exact ⟨by rw [e2]; exact hw, fun q1 => absurd (e2.symm.trans q1) e⟩
theorem RES.ofer {mem mm : Int → Int → Int} {rr r2 : PR} {v : Int} (h : RES mem mm rr v) (e : rr.1 ≠ -1) (e2 : r2.1 = rr.1) : RES mem mm r2 v := by
  refine ⟨h.1, fun q1 => absurd (e2.symm.trans q1) e, fun _ => ?_⟩
  rw [e2]
  exact h.2.2 e
/-- no operator follows -/
theorem LPS.out {T : Int → Int} {L : Int} {op : Int → Bool} {sub tg : Int → PR} {mem mm m2 : Int → Int → Int} {k : Nat} {rr : PR} {v : Int} (h : LPS T L op sub tg mem mm k rr v) (h2 : RES mem m2 (skR T L rr) v) (hn : rr.1 = -1 → ¬ op (chr T L (skp T L rr.2.1)) = true) : COM mem m2 tg v := by
  unfold COM
  by_cases e : mem 7 2 = -1
  · rw [frA_in e]
    have hj := h.2.1 e
    by_cases e2 : rr.1 = -1
    · have := hj.stop e2 (hn e2)
      rw [← this]
      exact h2
    · exact h2.ofer (by rw [skR_1]; exact e2) ((hj.fail e2).trans skR_1.symm)
  · rw [frA_no e]
    have e2 := h.2.2 e
    exact h2.ofer (by rw [skR_1, e2]; exact e) (by rw [skR_1, e2]; rfl)
/-- after a fault -/
theorem LPS.bad {T : Int → Int} {L : Int} {op : Int → Bool} {sub tg : Int → PR} {mem mm : Int → Int → Int} {k : Nat} {rr : PR} {v : Int} (h : LPS T L op sub tg mem mm k rr v) (e2 : rr.1 ≠ -1) : COM mem mm tg v := by
  unfold COM
  by_cases e : mem 7 2 = -1
  · rw [frA_in e]
    exact h.1.ofer e2 ((h.2.1 e).fail e2)
  · rw [frA_no e]
    exact h.1.ofer e2 (h.2.2 e).symm
/-- an operator is met, what follows it read -/
theorem LPS.step {T : Int → Int} {L c : Int} {op : Int → Bool} {sub tg : Int → PR} {mem mm m0 m2 m3 : Int → Int → Int} {k : Nat} {rr : PR} {v v1 v2 : Int} (h : LPS T L op sub tg mem mm k rr v) (hop : ∀ c, op c = true → isOp c) (hs : ∀ a, 0 ≤ a → a ≤ L → GD T L a (sub a)) (ha : mem 7 2 = -1 → 0 ≤ mem 7 1 ∧ mem 7 1 ≤ L) (hc : op c = true)
    (h0 : RES mem m0 rr v ∨ RES mem m0 (skR T L rr) v) (hv : nsV T L (m0 7 1) (m0 7 2) = c) (hm : m2 = upR m0 (nsA T L (m0 7 1) (m0 7 2) + 1) (m0 7 2)) :
    m2 = upR mem (skp T L rr.2.1 + 1) (-1) ∧ (0 ≤ skp T L rr.2.1 + 1 ∧ skp T L rr.2.1 + 1 ≤ L) ∧ 1 ≤ k ∧ (COM m2 m3 sub v1 → v2 = bothV c v v1 → LPS T L op sub tg mem m3 (k - 1) (bnd (sub (skp T L rr.2.1 + 1)) (fun a' c' => okP a' (rr.2.2 ++ c' ++ [chr T L (skp T L rr.2.1)]))) v2 ∧ ∀ i : Int, (rr.1 = -1 → i < rr.2.1) → (bnd (sub (skp T L rr.2.1 + 1)) (fun a' c' => okP a' (rr.2.2 ++ c' ++ [chr T L (skp T L rr.2.1)]))).1 = -1 → i + 1 < (bnd (sub (skp T L rr.2.1 + 1)) (fun a' c' => okP a' (rr.2.2 ++ c' ++ [chr T L (skp T L rr.2.1)]))).2.1) := by
  have hx := hop c hc
  have key : rr.1 = -1 ∧ chr T L (skp T L rr.2.1) = c ∧ m2 = upR mem (skp T L rr.2.1 + 1) (-1) := by
    rcases h0 with h0 | h0
    · exact h0.meet (by omega) hv hm
    · obtain ⟨e1, e2, e3⟩ := h0.meet (by omega) hv hm
      rw [skR_1] at e1
      rw [skR_in e1] at e2 e3
      have e4 : skp T L (okP (skp T L rr.2.1) rr.2.2).2.1 = skp T L rr.2.1 := skp_skp T L rr.2.1
      rw [e4] at e2 e3
      exact ⟨e1, e2, e3⟩
  obtain ⟨e1, e2, e3⟩ := key
  have e0 : mem 7 2 = -1 := by
    by_cases q1 : mem 7 2 = -1
    · exact q1
    · exact absurd ((h.2.2 q1).symm.trans e1) q1
  have hj := h.2.1 e0
  have hb := ha e0
  obtain ⟨n1, n2, n3⟩ := hj.next hop hs hb.1 e1 (by rw [e2]; exact hc)
  have g1 := (hj.1.1 e1).1
  have hsk := (skp_f T L rr.2.1).1
  refine ⟨e3, by omega, n1, fun hC h2 => ⟨⟨?_, fun _ => n3, fun q1 => absurd e0 q1⟩, fun i hi q1 => ?_⟩⟩
  · have hS := hC.get (by rw [e3]; exact upR_2)
    rw [e3, upR_1] at hS
    have hR1 := hS.base
    have hbv := bothV_bd c v v1
    by_cases q1 : (sub (skp T L rr.2.1 + 1)).1 = -1
    · rw [bnd_is q1, e2]
      have x1 := h.1.2.1 e1
      have x2 := hR1.2.1 q1
      exact RES.ok (by omega) rfl x2.1 (by rw [h2]; exact x1.2.bin x2.2 hx)
    · rw [bnd_no q1]
      obtain ⟨a', x2⟩ := hR1.2.2 q1
      exact RES.er (by omega) rfl q1 x2
  · by_cases q2 : (sub (skp T L rr.2.1 + 1)).1 = -1
    · rw [bnd_is q2]
      have g2 := ((hs (skp T L rr.2.1 + 1) (by omega) (by omega)).1 q2).1
      have := hi e1
      show i + 1 < (sub (skp T L rr.2.1 + 1)).2.1
      omega
    · rw [bnd_no q2] at q1
      exact absurd q1 q2
theorem LPS.start {T : Int → Int} {L : Int} {op : Int → Bool} {sub tg : Int → PR} {mem mm : Int → Int → Int} {v : Int} (h : COM mem mm sub v) (ht : ∀ a, tg a = bnd (sub a) (opL T L op sub 200)) (hs : ∀ a, 0 ≤ a → a ≤ L → GD T L a (sub a)) (ha : mem 7 2 = -1 → 0 ≤ mem 7 1 ∧ mem 7 1 ≤ L) (hL : L ≤ 160) : LPS T L op sub tg mem mm 200 (frA mem sub) v := by
  refine ⟨h, fun e => ?_, fun e => by rw [frA_no e]; rfl⟩
  have hb := ha e
  rw [frA_in e, ht]
  exact OPJ.start (hs _ hb.1 hb.2) (by omega) hb.1
theorem LPS.pos {T : Int → Int} {L : Int} {op : Int → Bool} {sub tg : Int → PR} {mem mm : Int → Int → Int} {k : Nat} {rr : PR} {v : Int} (h : LPS T L op sub tg mem mm k rr v) (ha : mem 7 2 = -1 → 0 ≤ mem 7 1 ∧ mem 7 1 ≤ L) : rr.1 = -1 → 0 < rr.2.1 := by
  intro e1
  have e0 : mem 7 2 = -1 := by
    by_cases q1 : mem 7 2 = -1
    · exact q1
    · exact absurd ((h.2.2 q1).symm.trans e1) q1
  have := ((h.2.1 e0).1.1 e1).1
  have := ha e0
  omega
theorem RES.nV2 {T : Int → Int} {L : Int} {mem mm : Int → Int → Int} {rr : PR} {v : Int} (h : RES mem mm (skR T L rr) v) (e : rr.1 = -1) : nsV T L (mm 7 1) (mm 7 2) = chr T L (skp T L rr.2.1) := by
  have h1 := h.nV (T := T) (L := L) (skR_1.trans e)
  rw [skR_in e] at h1
  have e4 : skp T L (okP (skp T L rr.2.1) rr.2.2).2.1 = skp T L rr.2.1 := skp_skp T L rr.2.1
  rw [e4] at h1
  exact h1
set_option maxHeartbeats 4000000 in
set_option maxRecDepth 100000 in
theorem c_X5_termO {l : Launch} {g : GP} (hG : GH g) {kd : Int → Nat} {ln : Int → Int} {mem : Int → Int → Int} {sz : Nat} (d : Int) (t : Int) (r : Int) (T : Int → Int) (L : Int) (hRD : RDX kd ln t r T L mem) (u : Nat) (hEB : EB mem) (ha : mem 7 2 = -1 → 0 ≤ mem 7 1 ∧ mem 7 1 ≤ L) (hw : InI (mem 7 2)) (hu : (u : Int) = 6 - d) (hcal : ∀ (mem : Int → Int → Int) (d : Int), RDX kd ln t r T L mem → EB mem → (mem 7 2 = -1 → 0 ≤ mem 7 1 ∧ mem 7 1 ≤ L) → InI (mem 7 2) → (u : Int) = 6 - d → MT l g yX5_atom cX5_atom 5 (some .long) (3 * u + 3) 0 0 [(2, 7), (0, d)] kd ln mem sz (pMR 1 (fun v mem' => (COM mem mem' (atomP T L u) v)) kd ln sz)) (h_d : InI d) : MT l g yX5_term cX5_term 5 (some .long) (3 * u + 4) 0 0 [(2, 7), (0, d)] kd ln mem sz (pMR 1 (fun v mem' => (COM mem mem' (termP T L u) v)) kd ln sz) := by
  refine MT_of hG (by decide +kernel) (Nat.le_of_ble_eq_true rfl) (fun z hF hr hn => ?_)
  have ⟨r1, r2, r3, r4, r5, r6, r7, r8, r9, r10, r11, r12, r13⟩ := hRD
  refine jblk hF [(.aload_n 0, 1), (.iload_n 1, 1)] (by decide +kernel) (pc' := 2) (lo' := [(0, (2, 7)), (1, (0, d))]) (st' := [(0, d), (2, 7)]) rfl ?_
  refine jcallV hF (hcal mem d (by exact hRD) (by exact hEB) (by exact ha) (by exact hw) (by assumption)) MW_X5_atom 6 (by decide) (by first | assumption | omega) wd_610 wd_612 wd_p12 (by decide +kernel) [] rfl rfl (rmI (by omega) (by decide)) (Nat.le_of_ble_eq_true rfl) ⟨Nat.le_of_ble_eq_true rfl, Nat.le_of_ble_eq_true rfl⟩ (kMR (fun v_3 m_1 h_2 => ?_))
  have hL0 := LPS.start (op := isMul) (tg := (termP T L u)) h_2 (fun a => rfl) (atomP_gd T L u) ha (by omega)
  refine jblk hF [(.lstore_n 2, 1), (.iconst 0, 1), (.istore 4, 2)] (by decide +kernel) (pc' := 9) (lo' := [(4, (0, 0)), (2, (1, v_3)), (0, (2, 7)), (1, (0, d))]) (st' := []) rfl ?_
  have L_5 : ∀ (fu_6 : Nat) (v : Int) (i : Int) (m3 : Int → Int → Int) (rr : PR) (k : Nat), (LPS T L isMul (atomP T L u) (termP T L u) mem m3 k rr v) → (0 ≤ i ∧ i ≤ L + 1 ∧ (rr.1 = -1 → i < rr.2.1)) →  k < fu_6 → J z g 5 0 0 (QM z g 0 0 (pMR 1 (fun v mem' => (COM mem mem' (termP T L u) v)) kd ln sz)) 9 [(0, (2, 7)), (1, (0, d)), (2, (1, v)), (4, (0, i))] [] kd ln m3 sz := by
    intro fu_6
    induction fu_6 with
    | zero => intro v i m3 rr k _ _ hm; omega
    | succ fu_6 ih_4 =>
      intro v i m3 rr k hlp hi hm
      have hrb := hlp.rb ha hw (by omega)
      have hRDm := hlp.1.rd hRD
      have ⟨n1, n2, n3, n4, n5, n6, n7, n8, n9, n10, n11, n12, n13⟩ := hRDm
      have kt2 : kd (m3 7 0) = 12 := by rw [n2]; exact n3
      have kr2 : kd (m3 (m3 7 0) 0) = 20 := by rw [n2, n5]; exact n7
      have kL2 : m3 (m3 7 0) 1 = L := by rw [n2]; exact n6
      have kT2 : m3 (m3 (m3 7 0) 0) = T := by rw [n2, n5]; exact n9
      have kn2 : ln (m3 (m3 7 0) 0) = ln r := by rw [n2, n5]
      have kg2 : 3 ≤ m3 7 0 ∧ 3 ≤ m3 (m3 7 0) 0 := by rw [n2, n5]; omega
      have hwm := hlp.1.wI hrb
      have ham := hlp.1.aB hrb
      have hvv := hlp.1.1
      refine jblk hF [(.iload 4, 2), (.aload_n 0, 1)] (by decide +kernel) (pc' := 12) (lo' := [(0, (2, 7)), (1, (0, d)), (2, (1, v)), (4, (0, i))]) (st' := [(2, 7), (0, i)]) rfl ?_
      refine jget hF 6 0 2 0 rfl (by decide) (by decide) rfl wd_170 (by decide +kernel) (by first | assumption | omega) ?_
      refine jget hF 11 1 0 1 rfl (by decide) (by decide) rfl wd_150 (by decide +kernel) (by first | assumption | omega) ?_
      refine jicmp_gt hF (off := 79) 97 (by decide +kernel) (by decide) (by omega) (by omega) (fun h_7 => ?_) (fun h_7 => ?_)
      · refine jblk hF [(.lload_n 2, 1)] (by decide +kernel) (pc' := 98) (lo' := [(0, (2, 7)), (1, (0, d)), (2, (1, v)), (4, (0, i))]) (st' := [(1, v)]) rfl ?_
        refine jlret hF hr (by decide +kernel) ?_
        exact lMR (by first | exact hlp.bad (fun q1 => by have g1 := hi.2.2 q1; have g2 := (hrb.2 q1).2; omega) | exact hlp.out (by have f9 := f2.miss (hs3.2.trans (if_neg (fun q1 => hs3.1.mpr q1))); rw [skR_sk] at f9; exact f9) (fun q1 q9 => by have z0 := of_decide_eq_true q9; rcases z0 with z0 | z0 | z0; exact hs1.1.mpr ((hlp.1.nV q1).trans z0); exact hs2.1.mpr ((f1.nV2 q1).trans z0); exact hs3.1.mpr ((f2.nV2 q1).trans z0)))
      · refine jblk hF [(.aload_n 0, 1), (.bipush 42, 2)] (by decide +kernel) (pc' := 24) (lo' := [(0, (2, 7)), (1, (0, d)), (2, (1, v)), (4, (0, i))]) (st' := [(0, 42), (2, 7)]) rfl ?_
        refine jcallV hF (c_X5_accepts hG 42 (by exact t) (by exact r) (by exact T) (by exact L) (by assumption) (by omega) (by omega) (by decide)) MW_X5_accepts 6 (by decide) (by first | assumption | omega) wd_622 wd_624 wd_p14 (by decide +kernel) [] rfl rfl (rmI (by omega) (by decide)) (Nat.le_of_ble_eq_true rfl) ⟨Nat.le_of_ble_eq_true rfl, Nat.le_of_ble_eq_true rfl⟩ (kMB (fun m_8 h_9 => ?_) (fun m_8 h_9 => ?_))
        · have h_9_ := h_9
          have hs1 := h_9
          have hpm1 := (rfl : m3 = m3)
          refine jif_eq hF (off := 17) 44 (by decide +kernel) (by decide) (by decide) (fun h => absurd h (by decide)) (fun _ => ?_)
          have t1 := hs1.1.mp trivial
          have Y := fun (mx : Int → Int → Int) (x1 x2 : Int) => hlp.step (m3 := mx) (v1 := x1) (v2 := x2) isMul_op (atomP_gd T L u) ha (by decide) (Or.inl hlp.1) t1 (hs1.2.trans (if_pos t1))
          have y1 := (Y mem 0 0).1
          have y2 := (Y mem 0 0).2.1
          have y3 := (Y mem 0 0).2.2.1
          refine jblk hF [(.lload_n 2, 1), (.aload_n 0, 1), (.iload_n 1, 1)] (by decide +kernel) (pc' := 33) (lo' := [(0, (2, 7)), (1, (0, d)), (2, (1, v)), (4, (0, i))]) (st' := [(0, d), (2, 7), (1, v)]) rfl ?_
          refine jcallV hF (hcal m_8 d (by rw [y1]; exact hRD.up) (by rw [y1]; exact hEB.up) (by rw [y1, upR_1, upR_2]; intro _; exact y2) (by rw [y1, upR_2]; exact ⟨by decide, by decide⟩) (by assumption)) MW_X5_atom 6 (by decide) (by first | assumption | omega) wd_610 wd_612 wd_p12 (by decide +kernel) [(1, v)] rfl rfl (rmI (by omega) (by decide)) (Nat.le_of_ble_eq_true rfl) ⟨Nat.le_of_ble_eq_true rfl, Nat.le_of_ble_eq_true rfl⟩ (kMR (fun v_13 m_11 h_12 => ?_))
          have hC := h_12
          have hvb := hC.1
          have hmu := mulI (⟨by omega, by omega⟩ : InI v) (⟨by omega, by omega⟩ : InI v_13)
          have hZ := (Y m_11 v_13 (cutV (v * v_13))).2.2.2 hC rfl
          refine jblk hF [(.lmul, 1)] (by decide +kernel) (pc' := 37) (lo' := [(0, (2, 7)), (1, (0, d)), (2, (1, v)), (4, (0, i))]) (st' := [(1, v * v_13)]) rfl ?_
          refine jcallS hF (c_X5_cut hG (v * v_13) (by omega)) MW_X5_cut wd_626 wd_627 (by decide +kernel) [] rfl rfl (rmI (by omega) (by decide)) (Nat.le_of_ble_eq_true rfl) ⟨Nat.le_of_ble_eq_true rfl, Nat.le_of_ble_eq_true rfl⟩ (kV ?_)
          refine jblk hF [(.lstore_n 2, 1)] (by decide +kernel) (pc' := 41) (lo' := [(2, (1, cutV (v * v_13))), (0, (2, 7)), (1, (0, d)), (4, (0, i))]) (st' := []) rfl ?_
          refine jgoto hF (off := 50) 91 (by decide +kernel) (by decide) ?_
          refine jblk hF [(.iinc 4 1, 3)] (by decide +kernel) (pc' := 94) (lo' := [(4, (0, i + 1)), (2, (1, cutV (v * v_13))), (0, (2, 7)), (1, (0, d))]) (st' := []) rfl ?_
          refine jgoto hF (off := (-85)) 9 (by decide +kernel) (by decide) ?_
          refine jsub [2, 3, 1, 0] rfl ?_
          refine ih_4 (cutV (v * v_13)) (i + 1) m_11 (bnd (atomP T L u (skp T L rr.2.1 + 1)) (fun a' c' => okP a' (rr.2.2 ++ c' ++ [chr T L (skp T L rr.2.1)]))) (k - 1) ?_ ?_ ?_
          · exact hZ.1
          · exact ⟨by omega, by omega, hZ.2 i hi.2.2⟩
          · omega
        · have h_9_ := h_9
          have hs1 := h_9
          have hpm1 := (rfl : m3 = m3)
          refine jif_eq hF (off := 17) 44 (by decide +kernel) (by decide) (by decide) (fun _ => ?_) (fun h => absurd h (by decide))
          have f1 := hlp.1.miss (hs1.2.trans (if_neg (fun q1 => hs1.1.mpr q1)))
          have hrs1 := hrb.sk (T := T)
          have hRDs1 := f1.rd hRD
          have hws1 := f1.wI hrs1
          have has1 := f1.aB hrs1
          refine jblk hF [(.aload_n 0, 1), (.bipush 47, 2)] (by decide +kernel) (pc' := 47) (lo' := [(0, (2, 7)), (1, (0, d)), (2, (1, v)), (4, (0, i))]) (st' := [(0, 47), (2, 7)]) rfl ?_
          refine jcallV hF (c_X5_accepts hG 47 (by exact t) (by exact r) (by exact T) (by exact L) (by assumption) (by omega) (by omega) (by decide)) MW_X5_accepts 6 (by decide) (by first | assumption | omega) wd_622 wd_624 wd_p14 (by decide +kernel) [] rfl rfl (rmI (by omega) (by decide)) (Nat.le_of_ble_eq_true rfl) ⟨Nat.le_of_ble_eq_true rfl, Nat.le_of_ble_eq_true rfl⟩ (kMB (fun m_15 h_16 => ?_) (fun m_15 h_16 => ?_))
          · have h_16_ := h_16
            have hs2 := h_16
            have hpm2 := (rfl : m_8 = m_8)
            refine jif_eq hF (off := 19) 69 (by decide +kernel) (by decide) (by decide) (fun h => absurd h (by decide)) (fun _ => ?_)
            have t1 := hs2.1.mp trivial
            have Y := fun (mx : Int → Int → Int) (x1 x2 : Int) => hlp.step (m3 := mx) (v1 := x1) (v2 := x2) isMul_op (atomP_gd T L u) ha (by decide) (Or.inr f1) t1 (hs2.2.trans (if_pos t1))
            have y1 := (Y mem 0 0).1
            have y2 := (Y mem 0 0).2.1
            have y3 := (Y mem 0 0).2.2.1
            refine jblk hF [(.lload_n 2, 1), (.aload_n 0, 1), (.iload_n 1, 1)] (by decide +kernel) (pc' := 56) (lo' := [(0, (2, 7)), (1, (0, d)), (2, (1, v)), (4, (0, i))]) (st' := [(0, d), (2, 7), (1, v)]) rfl ?_
            refine jcallV hF (hcal m_15 d (by rw [y1]; exact hRD.up) (by rw [y1]; exact hEB.up) (by rw [y1, upR_1, upR_2]; intro _; exact y2) (by rw [y1, upR_2]; exact ⟨by decide, by decide⟩) (by assumption)) MW_X5_atom 6 (by decide) (by first | assumption | omega) wd_610 wd_612 wd_p12 (by decide +kernel) [(1, v)] rfl rfl (rmI (by omega) (by decide)) (Nat.le_of_ble_eq_true rfl) ⟨Nat.le_of_ble_eq_true rfl, Nat.le_of_ble_eq_true rfl⟩ (kMR (fun v_20 m_18 h_19 => ?_))
            have hC := h_19
            have hvb := hC.1
            have hmu := mulI (⟨by omega, by omega⟩ : InI v) (⟨by omega, by omega⟩ : InI v_20)
            have hZ := (Y m_18 v_20 (cutV (if v_20 = 0 then 0 else v.tdiv v_20))).2.2.2 hC (cut_q _ _)
            refine jcallS hF (c_X5_quotient hG v v_20 (by omega) (by omega)) MW_X5_quotient wd_637 wd_638 (by decide +kernel) [] rfl rfl (rmI (by omega) (by decide)) (Nat.le_of_ble_eq_true rfl) ⟨Nat.le_of_ble_eq_true rfl, Nat.le_of_ble_eq_true rfl⟩ (kV ?_)
            have hf_21 := tdivQ v_20 (⟨by omega, by omega⟩ : InI v)
            refine jcallS hF (c_X5_cut hG (if v_20 = 0 then 0 else v.tdiv v_20) (by omega)) MW_X5_cut wd_626 wd_627 (by decide +kernel) [] rfl rfl (rmI (by omega) (by decide)) (Nat.le_of_ble_eq_true rfl) ⟨Nat.le_of_ble_eq_true rfl, Nat.le_of_ble_eq_true rfl⟩ (kV ?_)
            refine jblk hF [(.lstore_n 2, 1)] (by decide +kernel) (pc' := 66) (lo' := [(2, (1, cutV (if v_20 = 0 then 0 else v.tdiv v_20))), (0, (2, 7)), (1, (0, d)), (4, (0, i))]) (st' := []) rfl ?_
            refine jgoto hF (off := 25) 91 (by decide +kernel) (by decide) ?_
            refine jblk hF [(.iinc 4 1, 3)] (by decide +kernel) (pc' := 94) (lo' := [(4, (0, i + 1)), (2, (1, cutV (if v_20 = 0 then 0 else v.tdiv v_20))), (0, (2, 7)), (1, (0, d))]) (st' := []) rfl ?_
            refine jgoto hF (off := (-85)) 9 (by decide +kernel) (by decide) ?_
            refine jsub [2, 3, 1, 0] rfl ?_
            refine ih_4 (cutV (if v_20 = 0 then 0 else v.tdiv v_20)) (i + 1) m_18 (bnd (atomP T L u (skp T L rr.2.1 + 1)) (fun a' c' => okP a' (rr.2.2 ++ c' ++ [chr T L (skp T L rr.2.1)]))) (k - 1) ?_ ?_ ?_
            · exact hZ.1
            · exact ⟨by omega, by omega, hZ.2 i hi.2.2⟩
            · omega
          · have h_16_ := h_16
            have hs2 := h_16
            have hpm2 := (rfl : m_8 = m_8)
            refine jif_eq hF (off := 19) 69 (by decide +kernel) (by decide) (by decide) (fun _ => ?_) (fun h => absurd h (by decide))
            have f2 := f1.miss (hs2.2.trans (if_neg (fun q1 => hs2.1.mpr q1)))
            rw [skR_sk] at f2
            have hrs2 := hrb.sk (T := T)
            have hRDs2 := f2.rd hRD
            have hws2 := f2.wI hrs2
            have has2 := f2.aB hrs2
            refine jblk hF [(.aload_n 0, 1), (.bipush 37, 2)] (by decide +kernel) (pc' := 72) (lo' := [(0, (2, 7)), (1, (0, d)), (2, (1, v)), (4, (0, i))]) (st' := [(0, 37), (2, 7)]) rfl ?_
            refine jcallV hF (c_X5_accepts hG 37 (by exact t) (by exact r) (by exact T) (by exact L) (by assumption) (by omega) (by omega) (by decide)) MW_X5_accepts 6 (by decide) (by first | assumption | omega) wd_622 wd_624 wd_p14 (by decide +kernel) [] rfl rfl (rmI (by omega) (by decide)) (Nat.le_of_ble_eq_true rfl) ⟨Nat.le_of_ble_eq_true rfl, Nat.le_of_ble_eq_true rfl⟩ (kMB (fun m_23 h_24 => ?_) (fun m_23 h_24 => ?_))
            · have h_24_ := h_24
              have hs3 := h_24
              have hpm3 := (rfl : m_15 = m_15)
              refine jif_eq hF (off := 22) 97 (by decide +kernel) (by decide) (by decide) (fun h => absurd h (by decide)) (fun _ => ?_)
              have t1 := hs3.1.mp trivial
              have Y := fun (mx : Int → Int → Int) (x1 x2 : Int) => hlp.step (m3 := mx) (v1 := x1) (v2 := x2) isMul_op (atomP_gd T L u) ha (by decide) (Or.inr f2) t1 (hs3.2.trans (if_pos t1))
              have y1 := (Y mem 0 0).1
              have y2 := (Y mem 0 0).2.1
              have y3 := (Y mem 0 0).2.2.1
              refine jblk hF [(.lload_n 2, 1), (.aload_n 0, 1), (.iload_n 1, 1)] (by decide +kernel) (pc' := 81) (lo' := [(0, (2, 7)), (1, (0, d)), (2, (1, v)), (4, (0, i))]) (st' := [(0, d), (2, 7), (1, v)]) rfl ?_
              refine jcallV hF (hcal m_23 d (by rw [y1]; exact hRD.up) (by rw [y1]; exact hEB.up) (by rw [y1, upR_1, upR_2]; intro _; exact y2) (by rw [y1, upR_2]; exact ⟨by decide, by decide⟩) (by assumption)) MW_X5_atom 6 (by decide) (by first | assumption | omega) wd_610 wd_612 wd_p12 (by decide +kernel) [(1, v)] rfl rfl (rmI (by omega) (by decide)) (Nat.le_of_ble_eq_true rfl) ⟨Nat.le_of_ble_eq_true rfl, Nat.le_of_ble_eq_true rfl⟩ (kMR (fun v_28 m_26 h_27 => ?_))
              have hC := h_27
              have hvb := hC.1
              have hmu := mulI (⟨by omega, by omega⟩ : InI v) (⟨by omega, by omega⟩ : InI v_28)
              have hZ := (Y m_26 v_28 (cutV (if v_28 = 0 then 0 else v.tmod v_28))).2.2.2 hC (cut_q _ _)
              refine jcallS hF (c_X5_remainder hG v v_28 (by omega) (by omega)) MW_X5_remainder wd_640 wd_641 (by decide +kernel) [] rfl rfl (rmI (by omega) (by decide)) (Nat.le_of_ble_eq_true rfl) ⟨Nat.le_of_ble_eq_true rfl, Nat.le_of_ble_eq_true rfl⟩ (kV ?_)
              have hf_29 := tmodQ v_28 (⟨by omega, by omega⟩ : InI v)
              refine jcallS hF (c_X5_cut hG (if v_28 = 0 then 0 else v.tmod v_28) (by omega)) MW_X5_cut wd_626 wd_627 (by decide +kernel) [] rfl rfl (rmI (by omega) (by decide)) (Nat.le_of_ble_eq_true rfl) ⟨Nat.le_of_ble_eq_true rfl, Nat.le_of_ble_eq_true rfl⟩ (kV ?_)
              refine jblk hF [(.lstore_n 2, 1), (.iinc 4 1, 3)] (by decide +kernel) (pc' := 94) (lo' := [(4, (0, i + 1)), (2, (1, cutV (if v_28 = 0 then 0 else v.tmod v_28))), (0, (2, 7)), (1, (0, d))]) (st' := []) rfl ?_
              refine jgoto hF (off := (-85)) 9 (by decide +kernel) (by decide) ?_
              refine jsub [2, 3, 1, 0] rfl ?_
              refine ih_4 (cutV (if v_28 = 0 then 0 else v.tmod v_28)) (i + 1) m_26 (bnd (atomP T L u (skp T L rr.2.1 + 1)) (fun a' c' => okP a' (rr.2.2 ++ c' ++ [chr T L (skp T L rr.2.1)]))) (k - 1) ?_ ?_ ?_
              · exact hZ.1
              · exact ⟨by omega, by omega, hZ.2 i hi.2.2⟩
              · omega
            · have h_24_ := h_24
              have hs3 := h_24
              have hpm3 := (rfl : m_15 = m_15)
              refine jif_eq hF (off := 22) 97 (by decide +kernel) (by decide) (by decide) (fun _ => ?_) (fun h => absurd h (by decide))
              refine jblk hF [(.lload_n 2, 1)] (by decide +kernel) (pc' := 98) (lo' := [(0, (2, 7)), (1, (0, d)), (2, (1, v)), (4, (0, i))]) (st' := [(1, v)]) rfl ?_
              refine jlret hF hr (by decide +kernel) ?_
              exact lMR (by first | exact hlp.bad (fun q1 => by have g1 := hi.2.2 q1; have g2 := (hrb.2 q1).2; omega) | exact hlp.out (by have f9 := f2.miss (hs3.2.trans (if_neg (fun q1 => hs3.1.mpr q1))); rw [skR_sk] at f9; exact f9) (fun q1 q9 => by have z0 := of_decide_eq_true q9; rcases z0 with z0 | z0 | z0; exact hs1.1.mpr ((hlp.1.nV q1).trans z0); exact hs2.1.mpr ((f1.nV2 q1).trans z0); exact hs3.1.mpr ((f2.nV2 q1).trans z0)))
  refine jsub [2, 3, 1, 0] rfl ?_
  refine L_5 _ v_3 0 m_1 (frA mem (atomP T L u)) 200 ?_ ?_ (Nat.lt_succ_self _)
  · exact hL0
  · exact ⟨by omega, by omega, hL0.pos ha⟩
set_option maxHeartbeats 4000000 in
set_option maxRecDepth 100000 in
theorem c_X5_sumO {l : Launch} {g : GP} (hG : GH g) {kd : Int → Nat} {ln : Int → Int} {mem : Int → Int → Int} {sz : Nat} (d : Int) (t : Int) (r : Int) (T : Int → Int) (L : Int) (hRD : RDX kd ln t r T L mem) (u : Nat) (hEB : EB mem) (ha : mem 7 2 = -1 → 0 ≤ mem 7 1 ∧ mem 7 1 ≤ L) (hw : InI (mem 7 2)) (hu : (u : Int) = 6 - d) (hcal : ∀ (mem : Int → Int → Int) (d : Int), RDX kd ln t r T L mem → EB mem → (mem 7 2 = -1 → 0 ≤ mem 7 1 ∧ mem 7 1 ≤ L) → InI (mem 7 2) → (u : Int) = 6 - d → MT l g yX5_term cX5_term 5 (some .long) (3 * u + 4) 0 0 [(2, 7), (0, d)] kd ln mem sz (pMR 1 (fun v mem' => (COM mem mem' (termP T L u) v)) kd ln sz)) (h_d : InI d) : MT l g yX5_sum cX5_sum 5 (some .long) (3 * u + 5) 0 0 [(2, 7), (0, d)] kd ln mem sz (pMR 1 (fun v mem' => (COM mem mem' (sumP T L u) v)) kd ln sz) := by
  refine MT_of hG (by decide +kernel) (Nat.le_of_ble_eq_true rfl) (fun z hF hr hn => ?_)
  have ⟨r1, r2, r3, r4, r5, r6, r7, r8, r9, r10, r11, r12, r13⟩ := hRD
  refine jblk hF [(.aload_n 0, 1), (.iload_n 1, 1)] (by decide +kernel) (pc' := 2) (lo' := [(0, (2, 7)), (1, (0, d))]) (st' := [(0, d), (2, 7)]) rfl ?_
  refine jcallV hF (hcal mem d (by exact hRD) (by exact hEB) (by exact ha) (by exact hw) (by assumption)) MW_X5_term 6 (by decide) (by first | assumption | omega) wd_606 wd_608 wd_p11 (by decide +kernel) [] rfl rfl (rmI (by omega) (by decide)) (Nat.le_of_ble_eq_true rfl) ⟨Nat.le_of_ble_eq_true rfl, Nat.le_of_ble_eq_true rfl⟩ (kMR (fun v_3 m_1 h_2 => ?_))
  have hL0 := LPS.start (op := isAdd) (tg := (sumP T L u)) h_2 (fun a => by rw [sumP_eq]; rfl) (termP_gd T L u) ha (by omega)
  refine jblk hF [(.lstore_n 2, 1), (.iconst 0, 1), (.istore 4, 2)] (by decide +kernel) (pc' := 9) (lo' := [(4, (0, 0)), (2, (1, v_3)), (0, (2, 7)), (1, (0, d))]) (st' := []) rfl ?_
  have L_5 : ∀ (fu_6 : Nat) (v : Int) (i : Int) (m3 : Int → Int → Int) (rr : PR) (k : Nat), (LPS T L isAdd (termP T L u) (sumP T L u) mem m3 k rr v) → (0 ≤ i ∧ i ≤ L + 1 ∧ (rr.1 = -1 → i < rr.2.1)) →  k < fu_6 → J z g 5 0 0 (QM z g 0 0 (pMR 1 (fun v mem' => (COM mem mem' (sumP T L u) v)) kd ln sz)) 9 [(0, (2, 7)), (1, (0, d)), (2, (1, v)), (4, (0, i))] [] kd ln m3 sz := by
    intro fu_6
    induction fu_6 with
    | zero => intro v i m3 rr k _ _ hm; omega
    | succ fu_6 ih_4 =>
      intro v i m3 rr k hlp hi hm
      have hrb := hlp.rb ha hw (by omega)
      have hRDm := hlp.1.rd hRD
      have ⟨n1, n2, n3, n4, n5, n6, n7, n8, n9, n10, n11, n12, n13⟩ := hRDm
      have kt2 : kd (m3 7 0) = 12 := by rw [n2]; exact n3
      have kr2 : kd (m3 (m3 7 0) 0) = 20 := by rw [n2, n5]; exact n7
      have kL2 : m3 (m3 7 0) 1 = L := by rw [n2]; exact n6
      have kT2 : m3 (m3 (m3 7 0) 0) = T := by rw [n2, n5]; exact n9
      have kn2 : ln (m3 (m3 7 0) 0) = ln r := by rw [n2, n5]
      have kg2 : 3 ≤ m3 7 0 ∧ 3 ≤ m3 (m3 7 0) 0 := by rw [n2, n5]; omega
      have hwm := hlp.1.wI hrb
      have ham := hlp.1.aB hrb
      have hvv := hlp.1.1
      refine jblk hF [(.iload 4, 2), (.aload_n 0, 1)] (by decide +kernel) (pc' := 12) (lo' := [(0, (2, 7)), (1, (0, d)), (2, (1, v)), (4, (0, i))]) (st' := [(2, 7), (0, i)]) rfl ?_
      refine jget hF 6 0 2 0 rfl (by decide) (by decide) rfl wd_170 (by decide +kernel) (by first | assumption | omega) ?_
      refine jget hF 11 1 0 1 rfl (by decide) (by decide) rfl wd_150 (by decide +kernel) (by first | assumption | omega) ?_
      refine jicmp_gt hF (off := 52) 70 (by decide +kernel) (by decide) (by omega) (by omega) (fun h_7 => ?_) (fun h_7 => ?_)
      · refine jblk hF [(.lload_n 2, 1)] (by decide +kernel) (pc' := 71) (lo' := [(0, (2, 7)), (1, (0, d)), (2, (1, v)), (4, (0, i))]) (st' := [(1, v)]) rfl ?_
        refine jlret hF hr (by decide +kernel) ?_
        exact lMR (by first | exact hlp.bad (fun q1 => by have g1 := hi.2.2 q1; have g2 := (hrb.2 q1).2; omega) | exact hlp.out (by have f9 := f1.miss (hs2.2.trans (if_neg (fun q1 => hs2.1.mpr q1))); rw [skR_sk] at f9; exact f9) (fun q1 q9 => by have z0 := of_decide_eq_true q9; rcases z0 with z0 | z0; exact hs1.1.mpr ((hlp.1.nV q1).trans z0); exact hs2.1.mpr ((f1.nV2 q1).trans z0)))
      · refine jblk hF [(.aload_n 0, 1), (.bipush 43, 2)] (by decide +kernel) (pc' := 24) (lo' := [(0, (2, 7)), (1, (0, d)), (2, (1, v)), (4, (0, i))]) (st' := [(0, 43), (2, 7)]) rfl ?_
        refine jcallV hF (c_X5_accepts hG 43 (by exact t) (by exact r) (by exact T) (by exact L) (by assumption) (by omega) (by omega) (by decide)) MW_X5_accepts 6 (by decide) (by first | assumption | omega) wd_622 wd_624 wd_p14 (by decide +kernel) [] rfl rfl (rmI (by omega) (by decide)) (Nat.le_of_ble_eq_true rfl) ⟨Nat.le_of_ble_eq_true rfl, Nat.le_of_ble_eq_true rfl⟩ (kMB (fun m_8 h_9 => ?_) (fun m_8 h_9 => ?_))
        · have h_9_ := h_9
          have hs1 := h_9
          have hpm1 := (rfl : m3 = m3)
          refine jif_eq hF (off := 17) 44 (by decide +kernel) (by decide) (by decide) (fun h => absurd h (by decide)) (fun _ => ?_)
          have t1 := hs1.1.mp trivial
          have Y := fun (mx : Int → Int → Int) (x1 x2 : Int) => hlp.step (m3 := mx) (v1 := x1) (v2 := x2) isAdd_op (termP_gd T L u) ha (by decide) (Or.inl hlp.1) t1 (hs1.2.trans (if_pos t1))
          have y1 := (Y mem 0 0).1
          have y2 := (Y mem 0 0).2.1
          have y3 := (Y mem 0 0).2.2.1
          refine jblk hF [(.lload_n 2, 1), (.aload_n 0, 1), (.iload_n 1, 1)] (by decide +kernel) (pc' := 33) (lo' := [(0, (2, 7)), (1, (0, d)), (2, (1, v)), (4, (0, i))]) (st' := [(0, d), (2, 7), (1, v)]) rfl ?_
          refine jcallV hF (hcal m_8 d (by rw [y1]; exact hRD.up) (by rw [y1]; exact hEB.up) (by rw [y1, upR_1, upR_2]; intro _; exact y2) (by rw [y1, upR_2]; exact ⟨by decide, by decide⟩) (by assumption)) MW_X5_term 6 (by decide) (by first | assumption | omega) wd_606 wd_608 wd_p11 (by decide +kernel) [(1, v)] rfl rfl (rmI (by omega) (by decide)) (Nat.le_of_ble_eq_true rfl) ⟨Nat.le_of_ble_eq_true rfl, Nat.le_of_ble_eq_true rfl⟩ (kMR (fun v_13 m_11 h_12 => ?_))
          have hC := h_12
          have hvb := hC.1
          have hmu := mulI (⟨by omega, by omega⟩ : InI v) (⟨by omega, by omega⟩ : InI v_13)
          have hZ := (Y m_11 v_13 (cutV (v + v_13))).2.2.2 hC rfl
          refine jblk hF [(.ladd, 1)] (by decide +kernel) (pc' := 37) (lo' := [(0, (2, 7)), (1, (0, d)), (2, (1, v)), (4, (0, i))]) (st' := [(1, v + v_13)]) rfl ?_
          refine jcallS hF (c_X5_cut hG (v + v_13) (by omega)) MW_X5_cut wd_626 wd_627 (by decide +kernel) [] rfl rfl (rmI (by omega) (by decide)) (Nat.le_of_ble_eq_true rfl) ⟨Nat.le_of_ble_eq_true rfl, Nat.le_of_ble_eq_true rfl⟩ (kV ?_)
          refine jblk hF [(.lstore_n 2, 1)] (by decide +kernel) (pc' := 41) (lo' := [(2, (1, cutV (v + v_13))), (0, (2, 7)), (1, (0, d)), (4, (0, i))]) (st' := []) rfl ?_
          refine jgoto hF (off := 23) 64 (by decide +kernel) (by decide) ?_
          refine jblk hF [(.iinc 4 1, 3)] (by decide +kernel) (pc' := 67) (lo' := [(4, (0, i + 1)), (2, (1, cutV (v + v_13))), (0, (2, 7)), (1, (0, d))]) (st' := []) rfl ?_
          refine jgoto hF (off := (-58)) 9 (by decide +kernel) (by decide) ?_
          refine jsub [2, 3, 1, 0] rfl ?_
          refine ih_4 (cutV (v + v_13)) (i + 1) m_11 (bnd (termP T L u (skp T L rr.2.1 + 1)) (fun a' c' => okP a' (rr.2.2 ++ c' ++ [chr T L (skp T L rr.2.1)]))) (k - 1) ?_ ?_ ?_
          · exact hZ.1
          · exact ⟨by omega, by omega, hZ.2 i hi.2.2⟩
          · omega
        · have h_9_ := h_9
          have hs1 := h_9
          have hpm1 := (rfl : m3 = m3)
          refine jif_eq hF (off := 17) 44 (by decide +kernel) (by decide) (by decide) (fun _ => ?_) (fun h => absurd h (by decide))
          have f1 := hlp.1.miss (hs1.2.trans (if_neg (fun q1 => hs1.1.mpr q1)))
          have hrs1 := hrb.sk (T := T)
          have hRDs1 := f1.rd hRD
          have hws1 := f1.wI hrs1
          have has1 := f1.aB hrs1
          refine jblk hF [(.aload_n 0, 1), (.bipush 45, 2)] (by decide +kernel) (pc' := 47) (lo' := [(0, (2, 7)), (1, (0, d)), (2, (1, v)), (4, (0, i))]) (st' := [(0, 45), (2, 7)]) rfl ?_
          refine jcallV hF (c_X5_accepts hG 45 (by exact t) (by exact r) (by exact T) (by exact L) (by assumption) (by omega) (by omega) (by decide)) MW_X5_accepts 6 (by decide) (by first | assumption | omega) wd_622 wd_624 wd_p14 (by decide +kernel) [] rfl rfl (rmI (by omega) (by decide)) (Nat.le_of_ble_eq_true rfl) ⟨Nat.le_of_ble_eq_true rfl, Nat.le_of_ble_eq_true rfl⟩ (kMB (fun m_15 h_16 => ?_) (fun m_15 h_16 => ?_))
          · have h_16_ := h_16
            have hs2 := h_16
            have hpm2 := (rfl : m_8 = m_8)
            refine jif_eq hF (off := 20) 70 (by decide +kernel) (by decide) (by decide) (fun h => absurd h (by decide)) (fun _ => ?_)
            have t1 := hs2.1.mp trivial
            have Y := fun (mx : Int → Int → Int) (x1 x2 : Int) => hlp.step (m3 := mx) (v1 := x1) (v2 := x2) isAdd_op (termP_gd T L u) ha (by decide) (Or.inr f1) t1 (hs2.2.trans (if_pos t1))
            have y1 := (Y mem 0 0).1
            have y2 := (Y mem 0 0).2.1
            have y3 := (Y mem 0 0).2.2.1
            refine jblk hF [(.lload_n 2, 1), (.aload_n 0, 1), (.iload_n 1, 1)] (by decide +kernel) (pc' := 56) (lo' := [(0, (2, 7)), (1, (0, d)), (2, (1, v)), (4, (0, i))]) (st' := [(0, d), (2, 7), (1, v)]) rfl ?_
            refine jcallV hF (hcal m_15 d (by rw [y1]; exact hRD.up) (by rw [y1]; exact hEB.up) (by rw [y1, upR_1, upR_2]; intro _; exact y2) (by rw [y1, upR_2]; exact ⟨by decide, by decide⟩) (by assumption)) MW_X5_term 6 (by decide) (by first | assumption | omega) wd_606 wd_608 wd_p11 (by decide +kernel) [(1, v)] rfl rfl (rmI (by omega) (by decide)) (Nat.le_of_ble_eq_true rfl) ⟨Nat.le_of_ble_eq_true rfl, Nat.le_of_ble_eq_true rfl⟩ (kMR (fun v_20 m_18 h_19 => ?_))
            have hC := h_19
            have hvb := hC.1
            have hmu := mulI (⟨by omega, by omega⟩ : InI v) (⟨by omega, by omega⟩ : InI v_20)
            have hZ := (Y m_18 v_20 (cutV (v - v_20))).2.2.2 hC rfl
            refine jblk hF [(.lsub, 1)] (by decide +kernel) (pc' := 60) (lo' := [(0, (2, 7)), (1, (0, d)), (2, (1, v)), (4, (0, i))]) (st' := [(1, v - v_20)]) rfl ?_
            refine jcallS hF (c_X5_cut hG (v - v_20) (by omega)) MW_X5_cut wd_626 wd_627 (by decide +kernel) [] rfl rfl (rmI (by omega) (by decide)) (Nat.le_of_ble_eq_true rfl) ⟨Nat.le_of_ble_eq_true rfl, Nat.le_of_ble_eq_true rfl⟩ (kV ?_)
            refine jblk hF [(.lstore_n 2, 1), (.iinc 4 1, 3)] (by decide +kernel) (pc' := 67) (lo' := [(4, (0, i + 1)), (2, (1, cutV (v - v_20))), (0, (2, 7)), (1, (0, d))]) (st' := []) rfl ?_
            refine jgoto hF (off := (-58)) 9 (by decide +kernel) (by decide) ?_
            refine jsub [2, 3, 1, 0] rfl ?_
            refine ih_4 (cutV (v - v_20)) (i + 1) m_18 (bnd (termP T L u (skp T L rr.2.1 + 1)) (fun a' c' => okP a' (rr.2.2 ++ c' ++ [chr T L (skp T L rr.2.1)]))) (k - 1) ?_ ?_ ?_
            · exact hZ.1
            · exact ⟨by omega, by omega, hZ.2 i hi.2.2⟩
            · omega
          · have h_16_ := h_16
            have hs2 := h_16
            have hpm2 := (rfl : m_8 = m_8)
            refine jif_eq hF (off := 20) 70 (by decide +kernel) (by decide) (by decide) (fun _ => ?_) (fun h => absurd h (by decide))
            refine jblk hF [(.lload_n 2, 1)] (by decide +kernel) (pc' := 71) (lo' := [(0, (2, 7)), (1, (0, d)), (2, (1, v)), (4, (0, i))]) (st' := [(1, v)]) rfl ?_
            refine jlret hF hr (by decide +kernel) ?_
            exact lMR (by first | exact hlp.bad (fun q1 => by have g1 := hi.2.2 q1; have g2 := (hrb.2 q1).2; omega) | exact hlp.out (by have f9 := f1.miss (hs2.2.trans (if_neg (fun q1 => hs2.1.mpr q1))); rw [skR_sk] at f9; exact f9) (fun q1 q9 => by have z0 := of_decide_eq_true q9; rcases z0 with z0 | z0; exact hs1.1.mpr ((hlp.1.nV q1).trans z0); exact hs2.1.mpr ((f1.nV2 q1).trans z0)))
  refine jsub [2, 3, 1, 0] rfl ?_
  refine L_5 _ v_3 0 m_1 (frA mem (termP T L u)) 200 ?_ ?_ (Nat.lt_succ_self _)
  · exact hL0
  · exact ⟨by omega, by omega, hL0.pos ha⟩
end
