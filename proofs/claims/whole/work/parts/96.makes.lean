section
/-- the house's cells told by the model's cells M -/
def GRX (kd : Int → Nat) (ln : Int → Int) (mem : Int → Int → Int) (sz : Nat) (M : Int → Int → Int) : Prop := ∃ tg : Int → Int, GRP kd ln mem sz tg M
/-- the model's cells stay, the reader's letters are ints -/
def MKP (mem mm : Int → Int → Int) : Prop := (∀ a j : Int, 35 ≤ a → a ≤ 100 → mm a j = mem a j) ∧ EB mm
section
variable {kd kd1 kd2 : Int → Nat} {ln ln1 ln2 : Int → Int} {mem mem1 mem2 : Int → Int → Int} {sz sz1 sz2 : Nat} {tg : Int → Int} {L N e : Int} {c : Nat} {O : Int → Int → Prop}
theorem MKP.rf (h : INV kd ln mem sz tg) : MKP mem mem := ⟨fun _ _ _ _ => rfl, h.1.2.2.2.2.2⟩
theorem MKP.of (h : INV kd ln mem sz tg) (hf : ∀ a j : Int, (a < 27 ∨ (34 < a ∧ a ≤ 100)) → mem2 a j = mem a j) : MKP mem mem2 := by
  refine ⟨fun a j q1 q2 => hf a j (by omega), ?_⟩
  have w := h.1.2.2.2.2.2
  unfold EB at *
  rw [hf 7 3 (by omega), hf 7 4 (by omega), hf 7 5 (by omega)]
  exact w
theorem LSG.lso (h : LSG kd ln mem sz tg L N c O) (hE : EXT kd ln sz kd1 ln1 sz1) (hf : ∀ b j : Int, b < sz → mem1 b j = mem b j) (hc : Cond.castable (cRec (c - 1)).1 "java/lang/Object" ∈ lw_tbl) (hc1 : 1 ≤ c ∧ c ≤ 14) (hL : L < sz) : LSO kd1 ln1 mem1 sz1 L ∧ ELS kd1 (mem1 (mem1 L 1)) (mem1 L 2) := by
  obtain ⟨⟨l1, l2, l3, l4, l5, l6, l7, l8, l9, l10, l11, l12⟩, h2, h3, h4⟩ := h
  have e0 := hE.2 L l3
  have e1 := hE.2 (mem L 1) l5
  have ez := hE.1
  unfold LSO
  rw [hf L 1 l3, hf L 2 l3, e0.1, e1.1, e1.2]
  refine ⟨⟨l1, l2, by omega, l4, by omega, l6, l7, l8, l9, l10, l11, by omega⟩, fun j q1 q2 => ⟨c - 1, by omega, ?_, hc⟩⟩
  obtain ⟨g1, g2, -⟩ := h4 j q1 (by omega)
  rw [hf (mem L 1) j l5, (hE.2 _ g2.2.1).1, g1]
  omega
theorem ADDP.mkp (hA : ADDP ln1 mem1 sz1 L e kd2 ln2 mem2) (hrow : mem L 1 = 1 ∨ 101 ≤ mem L 1) (hf1 : ∀ b j : Int, b < sz → mem1 b j = mem b j) (hs : 101 ≤ sz) (hz : sz ≤ sz1) (hL : 27 ≤ L ∧ L ≤ 34) : ∀ a j : Int, (a < 27 ∨ (34 < a ∧ a ≤ 100)) → mem2 a j = mem a j := fun a j q => by
  obtain ⟨-, -, -, a4, a5, -, -, -, a9⟩ := hA
  have e1 : mem1 L 1 = mem L 1 := hf1 L 1 (by omega)
  rw [a9 a j (by omega) (by rcases a4 with v | v <;> rcases hrow with u | u <;> omega)]
  exact hf1 a j (by omega)
theorem ADDP.at (hA : ADDP ln1 mem1 sz1 L e kd2 ln2 mem2) (hl : mem1 L 1 < sz) (hL : L < sz) {b : Int} (hb : sz ≤ b ∧ b < sz1) (j : Int) : mem2 b j = mem1 b j := by
  obtain ⟨-, -, -, a4, -, -, -, -, a9⟩ := hA
  exact a9 b j (by omega) (by rcases a4 with v | v <;> omega)
/-- the owners, new cells told -/
def tgN (tg : Int → Int) (sz sz1 : Nat) (L N : Int) (f : Int → Int) : Int → Int := fun x => if x < sz then tg x else if x = sz1 then L * 10000 else L * 10000 + 100 * (N + 1) + f (x - sz)
theorem tgN_x {f : Int → Int} : TGX sz tg (tgN tg sz sz1 L N f) := fun a h => if_pos h
theorem tgN_1 {f : Int → Int} (h : sz ≤ sz1) : tgN tg sz sz1 L N f sz1 = L * 10000 := by
  unfold tgN
  rw [if_neg (by omega), if_pos rfl]
theorem tgN_n {f : Int → Int} {x : Int} (h : sz ≤ x ∧ x < sz1) : tgN tg sz sz1 L N f x = L * 10000 + 100 * (N + 1) + f (x - sz) := by
  unfold tgN
  rw [if_neg (by omega), if_neg (by omega)]
theorem GRX.func {s a b : Int} (hI : INV kd ln mem sz tg) (hc : funC mem s a b) (hE1 : EXT kd ln sz kd1 ln1 sz1) (hf1 : ∀ b j : Int, b < sz → mem1 b j = mem b j) (he : e = sz) (hs1 : sz1 = sz + 1) (hke : kd1 e = 2) (hfl : mem1 e 0 = s ∧ mem1 e 1 = a ∧ mem1 e 2 = b) (hA : ADDP ln1 mem1 sz1 27 e kd2 ln2 mem2) (hz2 : mem2 27 1 < sz2) (hE2 : EXT kd1 ln1 sz1 kd2 ln2 sz2) : GRX kd2 ln2 mem2 sz2 (funM mem s a b) := by
  have hs := hI.1.2.2.2.2.1
  have hn := hI.fns
  have hl : mem1 27 1 < sz := by rw [hf1 27 1 (by omega)]; exact hI.g27.1.2.2.2.2.1
  have hat := hA.at hl (by omega) (b := e) (by omega)
  refine ⟨tgN tg sz sz1 27 (mem 35 6) id, hI.2.2.add27 hI.2.1 hs (by omega) hE1 hf1 hA hz2 hE2 (by omega) hke tgN_x (tgN_1 (by omega)) ?_ ?_ (fun x j q1 q2 => ?_) ⟨?_, ?_, ?_⟩⟩
  · rw [tgN_n (by omega), he, Int.sub_self]; exact Int.add_zero _
  · unfold funM; exact s2_s
  · unfold funM set2
    rw [if_neg (by omega), if_neg (by omega), if_neg (by omega), if_neg (by omega)]
  · rw [hat 0, hfl.1]; unfold funM; rw [s2_a (by decide), s2_a (by decide), s2_a (by decide), s2_s]
  · rw [hat 1, hfl.2.1]; unfold funM; rw [s2_a (by decide), s2_a (by decide), s2_s]
  · rw [hat 2, hfl.2.2]; unfold funM; rw [s2_a (by decide), s2_s]
end
set_option maxHeartbeats 4000000 in
set_option maxRecDepth 100000 in
theorem c_X11_function {l : Launch} {g : GP} (hG : GH g) {kd : Int → Nat} {ln : Int → Int} {mem : Int → Int → Int} {sz : Nat} (hK : HK kd ln) (hR : HR mem) (s a b : Int) (tg : Int → Int) (hI : INV kd ln mem sz tg) (hEM : EMP g) (mi : Nat) (hMI : va_Mi "[Ljava/lang/Object;" mi (gs g)) (h_s : InI s) (h_a : InI a) (h_b : InI b) : MT l g yX11_function cX11_function 4 (some .int) 7 2 103 [(2, 3), (0, s), (0, a), (0, b)] kd ln mem sz (pXR 0 (fun v kd' ln' mem' sz' => HR mem' ∧ (((funC mem s a b) → v = mem 35 6 ∧ GRX kd' ln' mem' sz' (funM mem s a b)) ∧ (¬ (funC mem s a b) → v = -1 ∧ GRX kd' ln' mem' sz' mem) ∧ MKP mem mem')) kd ln sz) := by
  refine MT_of hG (by decide +kernel) (Nat.le_of_ble_eq_true rfl) (fun z hF hr hn => ?_)
  obtain ⟨⟨q0, q1, q2, q3, q4, q5⟩, u0, u2, u46, u89, usz⟩ := hI.num
  have n27 : 0 ≤ mem 35 6 ∧ mem 35 6 ≤ 10 := ⟨hI.fns.1, hI.fns.2.1⟩
  obtain ⟨e27, k27, r27, b27, c27⟩ := hI.g27.ls
  refine jblk hF [(.iload_n 1, 1), (.iconst 0, 1), (.iconst 2, 1)] (by decide +kernel) (pc' := 3) (lo' := [(0, (2, 3)), (1, (0, s)), (2, (0, a)), (3, (0, b))]) (st' := [(0, 2), (0, 0), (0, s)]) rfl ?_
  refine jcallS hF (c_X11_within hG s 0 2 (by omega) (by decide) (by decide)) MW_X11_within wd_391 wd_392 (by decide +kernel) [] rfl rfl (by decide) (Nat.le_of_ble_eq_true rfl) (by decide) (kB (fun h_1 => ?_) (fun h_1 => ?_))
  · refine jif_eq hF (off := 35) 41 (by decide +kernel) (by decide) (by decide) (fun h => absurd h (by decide)) (fun _ => ?_)
    refine jblk hF [(.iload_n 2, 1), (.iconst 1, 1), (.bipush 99, 2)] (by decide +kernel) (pc' := 13) (lo' := [(0, (2, 3)), (1, (0, s)), (2, (0, a)), (3, (0, b))]) (st' := [(0, 99), (0, 1), (0, a)]) rfl ?_
    refine jcallS hF (c_X11_within hG a 1 99 (by omega) (by decide) (by decide)) MW_X11_within wd_391 wd_392 (by decide +kernel) [] rfl rfl (by decide) (Nat.le_of_ble_eq_true rfl) (by decide) (kB (fun h_3 => ?_) (fun h_3 => ?_))
    · refine jif_eq hF (off := 25) 41 (by decide +kernel) (by decide) (by decide) (fun h => absurd h (by decide)) (fun _ => ?_)
      refine jblk hF [(.iload_n 3, 1), (.iconst 0, 1), (.bipush 99, 2)] (by decide +kernel) (pc' := 23) (lo' := [(0, (2, 3)), (1, (0, s)), (2, (0, a)), (3, (0, b))]) (st' := [(0, 99), (0, 0), (0, b)]) rfl ?_
      refine jcallS hF (c_X11_within hG b 0 99 (by omega) (by decide) (by decide)) MW_X11_within wd_391 wd_392 (by decide +kernel) [] rfl rfl (by decide) (Nat.le_of_ble_eq_true rfl) (by decide) (kB (fun h_5 => ?_) (fun h_5 => ?_))
      · refine jif_eq hF (off := 15) 41 (by decide +kernel) (by decide) (by decide) (fun h => absurd h (by decide)) (fun _ => ?_)
        refine jblk hF [(.aload_n 0, 1)] (by decide +kernel) (pc' := 30) (lo' := [(0, (2, 3)), (1, (0, s)), (2, (0, a)), (3, (0, b))]) (st' := [(2, 3)]) rfl ?_
        refine jget hF 12 12 2 12 rfl (by decide) (by decide) rfl wd_338 (by decide +kernel) (by exact hK.k3) ?_
        rw [HR.r3_12 hR]
        refine jcallV hF (c_Jx4a65c_size_8abf5 hG 27 (by first | assumption | omega)) MW_Jx4a65c_size_8abf5 0 (by decide) (by exact hK.k27) wd_410 wd_411 wd_412 (by decide +kernel) [] rfl rfl (by decide) (Nat.le_of_ble_eq_true rfl) (by decide) (kV ?_)
        rw [e27]
        refine jblk hF [(.bipush 10, 2)] (by decide +kernel) (pc' := 38) (lo' := [(0, (2, 3)), (1, (0, s)), (2, (0, a)), (3, (0, b))]) (st' := [(0, 10), (0, mem 35 6)]) rfl ?_
        refine jicmp_lt hF (off := 5) 43 (by decide +kernel) (by decide) (by omega) (by decide) (fun h_7 => ?_) (fun h_7 => ?_)
        · have hcc : funC mem s a b := by omega
          refine jblk hF [(.aload_n 0, 1)] (by decide +kernel) (pc' := 44) (lo' := [(0, (2, 3)), (1, (0, s)), (2, (0, a)), (3, (0, b))]) (st' := [(2, 3)]) rfl ?_
          refine jget hF 12 12 2 12 rfl (by decide) (by decide) rfl wd_338 (by decide +kernel) (by exact hK.k3) ?_
          rw [HR.r3_12 hR]
          refine jnew hF 1 (by decide) okT_1 wd_414 wd_415 wd_113 (by decide +kernel) ⟨Nat.le_of_ble_eq_true rfl, Nat.le_of_ble_eq_true rfl⟩ ?_
          obtain ⟨kd_8, hkd_8⟩ : ∃ q : Int → Nat, q = upK kd ((sz : Nat) : Int) (2) := ⟨_, rfl⟩
          obtain ⟨m_8, hm_8⟩ : ∃ q : Int → Int → Int, q = newO 1 mem ((sz : Nat) : Int) := ⟨_, rfl⟩
          obtain ⟨sz_8, hsz_8⟩ : ∃ q : Nat, q = sz + 1 := ⟨_, rfl⟩
          obtain ⟨a_8, ha_8⟩ : ∃ q : Int, q = ((sz : Nat) : Int) := ⟨_, rfl⟩
          rw [← hkd_8, ← hm_8, ← hsz_8]
          rw [← ha_8]
          have hk_8 : kd_8 a_8 = 2 := by rw [ha_8, hkd_8]; exact if_pos rfl
          have hE_8 : EXT kd ln sz kd_8 ln sz_8 := by rw [hsz_8, hkd_8]; exact EXT.k _
          have hEE_8 : EXT kd ln sz kd_8 ln sz_8 := (EXT.rf).tr hE_8
          have hK_8 : HK kd_8 ln := hK.ext hE_8 (by omega)
          have hR_m_8 : HR m_8 := HR.of hR (fun a k q => by rw [hm_8]; exact newO_o _ (by omega))
          have hmo_8 : ∀ b j : Int, b ≠ a_8 → m_8 b j = mem b j := fun b j q => by rw [hm_8]; exact newO_o j (by rw [← ha_8]; exact q)
          have hmn_8 : ∀ j : Int, m_8 a_8 j = dfl 1 j.toNat := fun j => by rw [hm_8, ha_8]; exact newO_s j
          have hmoA := hmo_8
          have hmnA := hmn_8
          have hEA := hE_8
          have hkA := hk_8
          have haA := ha_8
          have hszA := hsz_8
          have hEEA := hEE_8
          refine jblk hF [(.dup, 1), (.iload_n 1, 1), (.iload_n 2, 1), (.iload_n 3, 1)] (by decide +kernel) (pc' := 54) (lo' := [(0, (2, 3)), (1, (0, s)), (2, (0, a)), (3, (0, b))]) (st' := [(0, b), (0, a), (0, s), (2, a_8), (2, a_8), (2, 27)]) rfl ?_
          refine jcallI hF (c_X0_init hG a_8 s a b (by first | assumption | omega) (by omega)) MW_X0_init rfl (by first | assumption | omega) wd_416 wd_417 (by decide +kernel) [(2, a_8), (2, 27)] rfl rfl (by decide) (Nat.le_of_ble_eq_true rfl) ⟨Nat.le_of_ble_eq_true rfl, Nat.le_of_ble_eq_true rfl⟩ (kMV (fun m_9 h_10 => ?_))
          have hfl := h_10
          have hE1x := hEEA
          have hf1x : ∀ b j : Int, b < sz → m_9 b j = mem b j := fun b j u => by rw [hfl, s2_a (by omega), s2_a (by omega), s2_a (by omega)]; exact hmoA b j (by omega)
          have hR_m_9 : HR m_9 := HR.of hR (fun x k u => hf1x x k (by omega))
          have hke := hkA
          have hlo := hI.g27.lso hE1x hf1x wx_2263 (by decide) (by omega)
          refine jcallV hF (c_Jx4a65c_add_9ea2d hG 27 a_8 (by assumption) (by exact mi) (by assumption) (by exact hlo.1) (by exact hlo.2) (by exact 1) (by decide) (by first | assumption | exact hke) (by omega) (by exact wx_2263)) MW_Jx4a65c_add_9ea2d 0 (by decide) (by exact hK_8.k27) wd_430 wd_431 wd_432 (by decide +kernel) [] rfl rfl (by decide) (Nat.le_of_ble_eq_true rfl) (by decide) (kXR (fun v_11 kd_11 ln_11 m_11 sz_11 hE_11 h_11 => ?_))
          have hEE_11 : EXT kd ln sz kd_11 ln_11 sz_11 := (hEE_8).tr hE_11
          have hK_11 : HK kd_11 ln_11 := hK_8.ext hE_11 (by omega)
          obtain ⟨hv1, hAd, hAz⟩ := h_11
          have hE2x := hE_11
          have hfx : ∀ a j : Int, (a < 27 ∨ (34 < a ∧ a ≤ 100)) → m_11 a j = mem a j := hAd.mkp (hI.g27.2.1.imp id (fun u => u.1)) hf1x (by omega) (by omega) (by decide)
          have hR_m_11 : HR m_11 := HR.of hR (fun x k u => hfx x k (by omega))
          have hsz2 : m_11 27 2 = mem 35 6 + 1 := by rw [hAd.2.2.2.2.2.1, hf1x 27 2 (by omega), e27]
          have hmk : MKP mem m_11 := MKP.of hI hfx
          have hkLx : kd_11 27 = 1 := ((hE1x.tr hE2x).2 27 (by omega)).1.trans k27
          refine jblk hF [(.pop, 1), (.aload_n 0, 1)] (by decide +kernel) (pc' := 62) (lo' := [(0, (2, 3)), (1, (0, s)), (2, (0, a)), (3, (0, b))]) (st' := [(2, 3)]) rfl ?_
          refine jget hF 12 12 2 12 rfl (by decide) (by decide) rfl wd_338 (by decide +kernel) (by exact hK_11.k3) ?_
          rw [HR.r3_12 hR_m_11]
          refine jcallV hF (c_Jx4a65c_size_8abf5 hG 27 (by first | assumption | omega)) MW_Jx4a65c_size_8abf5 0 (by decide) (by exact hK_11.k27) wd_410 wd_411 wd_412 (by decide +kernel) [] rfl rfl (by decide) (Nat.le_of_ble_eq_true rfl) (by decide) (kV ?_)
          rw [hsz2]
          refine jblk hF [(.iconst 1, 1), (.isub, 1)] (by decide +kernel) (pc' := 70) (lo' := [(0, (2, 3)), (1, (0, s)), (2, (0, a)), (3, (0, b))]) (st' := [(0, (mem 35 6 + 1) - 1)]) rfl ?_
          refine jwiden (k := 2) (n := 103) (Nat.le_of_ble_eq_true rfl) (Nat.le_of_ble_eq_true rfl) ?_
          refine jiret hF hr (by decide +kernel) ?_
          exact ⟨_, rfl, hEE_11, ⟨hR_m_11, by exact ⟨fun _ => ⟨by omega, GRX.func hI hcc hE1x hf1x haA (by omega) hkA ⟨by rw [hfl, s2_k (by decide), s2_k (by decide), s2_s], by rw [hfl, s2_k (by decide), s2_s], by rw [hfl, s2_s]⟩ hAd hAz hE2x⟩, fun u => absurd hcc u, hmk⟩⟩⟩
        · have hng : ¬ funC mem s a b := by omega
          refine jblk hF [(.iconst (-1), 1)] (by decide +kernel) (pc' := 42) (lo' := [(0, (2, 3)), (1, (0, s)), (2, (0, a)), (3, (0, b))]) (st' := [(0, (-1))]) rfl ?_
          refine jwiden (k := 2) (n := 103) (Nat.le_of_ble_eq_true rfl) (Nat.le_of_ble_eq_true rfl) ?_
          refine jiret hF hr (by decide +kernel) ?_
          exact ⟨_, rfl, EXT.rf, ⟨hR, by exact ⟨fun u => absurd u hng, fun _ => ⟨rfl, ⟨tg, hI.2.2⟩⟩, MKP.rf hI⟩⟩⟩
      · refine jif_eq hF (off := 15) 41 (by decide +kernel) (by decide) (by decide) (fun _ => ?_) (fun h => absurd h (by decide))
        have hng : ¬ funC mem s a b := by omega
        refine jblk hF [(.iconst (-1), 1)] (by decide +kernel) (pc' := 42) (lo' := [(0, (2, 3)), (1, (0, s)), (2, (0, a)), (3, (0, b))]) (st' := [(0, (-1))]) rfl ?_
        refine jwiden (k := 2) (n := 103) (Nat.le_of_ble_eq_true rfl) (Nat.le_of_ble_eq_true rfl) ?_
        refine jiret hF hr (by decide +kernel) ?_
        exact ⟨_, rfl, EXT.rf, ⟨hR, by exact ⟨fun u => absurd u hng, fun _ => ⟨rfl, ⟨tg, hI.2.2⟩⟩, MKP.rf hI⟩⟩⟩
    · refine jif_eq hF (off := 25) 41 (by decide +kernel) (by decide) (by decide) (fun _ => ?_) (fun h => absurd h (by decide))
      have hng : ¬ funC mem s a b := by omega
      refine jblk hF [(.iconst (-1), 1)] (by decide +kernel) (pc' := 42) (lo' := [(0, (2, 3)), (1, (0, s)), (2, (0, a)), (3, (0, b))]) (st' := [(0, (-1))]) rfl ?_
      refine jwiden (k := 2) (n := 103) (Nat.le_of_ble_eq_true rfl) (Nat.le_of_ble_eq_true rfl) ?_
      refine jiret hF hr (by decide +kernel) ?_
      exact ⟨_, rfl, EXT.rf, ⟨hR, by exact ⟨fun u => absurd u hng, fun _ => ⟨rfl, ⟨tg, hI.2.2⟩⟩, MKP.rf hI⟩⟩⟩
  · refine jif_eq hF (off := 35) 41 (by decide +kernel) (by decide) (by decide) (fun _ => ?_) (fun h => absurd h (by decide))
    have hng : ¬ funC mem s a b := by omega
    refine jblk hF [(.iconst (-1), 1)] (by decide +kernel) (pc' := 42) (lo' := [(0, (2, 3)), (1, (0, s)), (2, (0, a)), (3, (0, b))]) (st' := [(0, (-1))]) rfl ?_
    refine jwiden (k := 2) (n := 103) (Nat.le_of_ble_eq_true rfl) (Nat.le_of_ble_eq_true rfl) ?_
    refine jiret hF hr (by decide +kernel) ?_
    exact ⟨_, rfl, EXT.rf, ⟨hR, by exact ⟨fun u => absurd u hng, fun _ => ⟨rfl, ⟨tg, hI.2.2⟩⟩, MKP.rf hI⟩⟩⟩
end
