section
section
variable {kd : Int → Nat} {ln : Int → Int} {mem m : Int → Int → Int} {sz : Nat} {tg : Int → Int} {p q v n : Int}
theorem SCF.cg (h : SCF mem m) {a : Int} (h1 : a ≠ 11 ∧ a ≠ 12 ∧ a ≠ 13) : m a = mem a := funext fun j => h a j h1.1 h1.2.1 h1.2.2
theorem SCF.eqs (h : SCF mem m) : EQS mem m := fun a j q => h a j (by omega) (by omega) (by omega)
theorem SCF.c47 (h : SCF mem m) (p : Int) : m 47 p = mem 47 p := h 47 p (by decide) (by decide) (by decide)
theorem SCF.c49 (h : SCF mem m) (p : Int) : m 49 p = mem 49 p := h 49 p (by decide) (by decide) (by decide)
theorem SCF.c52 (h : SCF mem m) (p : Int) : m 52 p = mem 52 p := h 52 p (by decide) (by decide) (by decide)
theorem SCF.crv (h : SCF mem m) (p n : Int) : rightV m p n = rightV mem p n := by rw [ovr_ex h.eqs]; rfl
theorem INV.r29 (h : INV kd ln mem sz tg) : mem 29 1 = 1 ∨ 101 ≤ mem 29 1 := h.g29.2.1.imp id (fun w => w.1)
theorem PAGV.scf (hP : PAGV kd ln mem sz tg p v) (h : SCF mem m) (hI : INV kd ln mem sz tg) : PAGV kd ln m sz tg p v := by
  obtain ⟨⟨h1, h2, h3, h4⟩, h5, h6⟩ := hP
  have e29 : m 29 1 = mem 29 1 := h 29 1 (by decide) (by decide) (by decide)
  have hr := hI.r29
  refine ⟨⟨?_, h2, h3, h4⟩, h5.tr EXT.rf (fun _ _ => rfl) ⟨h4.1, by omega⟩ (fun a q1 _ _ _ => h.cg (by omega)) (h.cg (by have := h3.1; omega)) (PGE.of fun k j w => h k j (by omega) (by omega) (by omega)), by rw [ovr_ex h.eqs]; exact h6⟩
  rw [e29, h (mem 29 1) p (by omega) (by omega) (by omega)]
  exact h1
theorem PAGV.kept (hP : PAGV kd ln mem sz tg p v) (h : SCF mem m) {x : Int} (hx : m 11 n = x) : nearBy (wL (m 11 n)) (10 ^ (m v 6).toNat) (m v 8) = keptV mem p x := by
  have hv := hP.at
  obtain ⟨g0, g1, g2, g3, g4, g5, g6, g7, g8⟩ := hP.nm
  rw [h v 6 (by omega) (by omega) (by omega), h v 8 (by omega) (by omega) (by omega), g6, g8, hx]
  rfl
theorem PAGV.ci (hP : PAGV kd ln mem sz tg p v) : ∀ i : Int, 0 ≤ i → i < mem v 2 → InI (mem (mem v 11) i) ∧ InI (mem (mem v 12) i) := fun i w1 w2 => by
  obtain ⟨g0, g1, g2, -⟩ := hP.nm
  obtain ⟨f1, f2, f3, f4, f5, f6, f7, f8, f9, f10, f11, f12⟩ := hP.2.1.2.2.1 i w1 (by omega)
  rw [f3, f4]
  exact ⟨⟨by omega, by omega⟩, f12⟩
/-- a line's check, in the house's words and the model's -/
theorem PAGV.hlv (hP : PAGV kd ln mem sz tg p v) (h : SCF mem m) {nm nm' cl cl' : Int → Int} (hn : 0 ≤ n ∧ n < mem 47 p) (e1 : ∀ i : Int, n - n % mem 52 p ≤ i → i ≤ n → nm i = nm' i) (e2 : ∀ i : Int, n - n % mem 52 p + mem 49 p < i → i ≤ n → cl i = cl' i) : hlS m nm cl v n ↔ hldV mem nm' cl' p n := by
  have hv := hP.at
  have hpg := hP.2.2
  obtain ⟨g0, g1, g2, g3, g4, g5, g6, g7, g8⟩ := hP.nm
  obtain ⟨f1, f2, f3, f4, f5, f6, f7, f8, f9, f10, f11, f12⟩ := hP.2.1.2.2.1 n hn.1 hn.2
  have w11 := hP.r4 (k := 11) (by decide) (by decide)
  have t11 := hP.row 11 (by decide)
  have t12 := hP.row 12 (by decide)
  have t13 := hP.row 13 (by decide)
  have hq := emod_bd2 n (mem 52 p) (by omega)
  have hqn := mod_le (n := n) (m := mem 52 p) hn.1 (by omega)
  have mv : ∀ k : Int, m v k = mem v k := fun k => h v k (by omega) (by omega) (by omega)
  unfold hlS ADU hldV
  rw [mv 11, mv 7, mv 4, mv 12, mv 13, h (mem v 11) n (by omega) (by omega) (by omega), h (mem v 12) n (by omega) (by omega) (by omega), h (mem v 13) n (by omega) (by omega) (by omega), f3, f4, f6, g4, g7]
  by_cases c1 : mem 56 (40 * p + n) = 1
  · rw [if_pos c1, if_pos c1]
    by_cases hm : n % mem 52 p ≤ mem 49 p
    · exact ⟨fun _ => Or.inl hm, fun _ => Or.inl hm⟩
    · rw [e1 n (by omega) (by omega), e1 (n - n % mem 52 p + mem 49 p) (by omega) (by omega), sumC_cg _ _ (fun i w1 w2 => e2 i (by omega) (by omega)), wL_eq_iff, wL_eq_iff, show ∀ a b c d : Int, a - d - (b - d + c) = a - (b + c) from fun a b c d => by omega]
  · rw [if_neg c1, if_neg c1]
    by_cases c2 : mem 56 (40 * p + n) = 2
    · rw [if_pos c2, if_pos c2]
      by_cases hm : n % mem 52 p ≤ mem 49 p
      · exact ⟨fun _ => Or.inl hm, fun _ => Or.inl hm⟩
      · rw [difF_cg n _ _ (fun i w1 w2 => e1 i (by omega) w2)]
    · rw [if_neg c2, if_neg c2]
      by_cases c3 : mem 56 (40 * p + n) = 3
      · rw [if_pos c3, e1 n (by omega) (by omega), f5]
        exact ⟨fun w => Or.inr w, fun w => w.elim (fun u => by omega) id⟩
      · rw [if_neg c3]
        exact ⟨fun _ => Or.inl (by omega), fun _ => trivial⟩
theorem PAGV.hld (hP : PAGV kd ln mem sz tg p v) (h : SCF mem m) (hmd : MDP mem m p q) (hn : 0 ≤ n) (hn2 : n < mem 47 p) : hlS m (m 11) (c1F m) v n ↔ hldA mem p (adS mem p q) n := by
  have hpg := hP.2.2
  have hb := blk_st (m := mem 52 p) (n := n) (by omega) hn
  refine hP.hlv h ⟨hn, hn2⟩ (fun i w1 w2 => hmd.1 i (by omega) (by omega)) (fun i w1 w2 => ?_)
  have hi := blk_mod (s := n - n % mem 52 p) (n := i) (m := mem 52 p) (by omega) hb.1 (by omega) (by omega)
  exact hmd.2 i 1 (by omega) (by omega) (by omega) (by omega) (by omega)
theorem fcS_fl {nm cl : Int → Int} {ad : Int → Int} (a : Int) (h0 : 0 ≤ a) : ∀ k : Nat, (∀ n : Int, a ≤ n → n < a + k → (hlS m nm cl v n ↔ hldA mem p ad n)) → fcS m nm cl v a k = flN mem p ad (a + k).toNat - flN mem p ad a.toNat := by
  intro k
  induction k with
  | zero => intro _; rw [show a + ((0 : Nat) : Int) = a by omega, Int.sub_self]; rfl
  | succ k ih =>
    intro hh
    have e := hh (a + k) (by omega) (by omega)
    unfold fcS
    rw [ih (fun n w1 w2 => hh n w1 (by omega)), show (a + ((k + 1 : Nat) : Int)).toNat = (a + k).toNat + 1 by omega, flN, show (((a + (k : Int)).toNat : Nat) : Int) = a + k by omega]
    by_cases w : hldA mem p ad (a + k)
    · rw [c01_t (e.mpr w), if_pos w]; omega
    · rw [c01_f (fun u => w (e.mp u)), if_neg w]; omega
theorem PAGV.fls (hP : PAGV kd ln mem sz tg p v) (h : SCF mem m) (hmd : MDP mem m p q) : fcS m (m 11) (c1F m) v 0 (mem 47 p).toNat = flN mem p (adS mem p q) (mem 47 p).toNat := by
  have hpg := hP.2.2
  rw [fcS_fl (p := p) (mem := mem) (ad := adS mem p q) 0 (by omega) _ (fun n w1 w2 => hP.hld h hmd w1 (by omega))]
  rw [show (0 : Int) + (((mem 47 p).toNat : Nat) : Int) = mem 47 p by omega]
  show _ - 0 = _
  omega
theorem keptV_in (mem : Int → Int → Int) (p x : Int) : InL (keptV mem p x) := nearBy_in _ _ _ (wL_in x) ten_pos
theorem keq {mem : Int → Int → Int} {p x n : Int} (hp : PG mem p) (h0 : 0 ≤ n) (h1 : n < mem 47 p) (h : wL (keptV mem p x) = wL (rightV mem p n)) : keptV mem p x = rightV mem p n := by
  have b := rightV_bd hp h0 h1
  rw [wL_id (keptV_in mem p x), wL_id ⟨by omega, by omega⟩] at h
  exact h
theorem wrongN_s {mem : Int → Int → Int} {p q n : Int} (h : 0 ≤ n) : wrongN mem p q (n + 1).toNat = wrongN mem p q n.toNat + (if keptV mem p (numQ mem p n q) = rightV mem p n then 0 else 1) := by
  rw [show (n + 1).toNat = n.toNat + 1 by omega, wrongN, show ((n.toNat : Nat) : Int) = n by omega]
end
set_option maxHeartbeats 4000000 in
set_option maxRecDepth 100000 in
theorem c_X11_trueOf {l : Launch} {g : GP} (hG : GH g) {kd : Int → Nat} {ln : Int → Int} {mem : Int → Int → Int} {sz : Nat} (hK : HK kd ln) (hR : HR mem) (p n : Int) (tg : Int → Int) (hI : INV kd ln mem sz tg) (hok : isLn mem p n) (h_p : InI p) (h_n : InI n) : MT l g yX11_trueOf cX11_trueOf 4 (some .long) 5 0 0 [(2, 3), (0, p), (0, n)] kd ln mem sz (pV (1, numT mem p n) kd ln mem sz) := by
  refine MT_of hG (by decide +kernel) (Nat.le_of_ble_eq_true rfl) (fun z hF hr hn => ?_)
  obtain ⟨⟨q0, q1, q2, q3, q4, q5⟩, u0, u2, u46, u89, usz⟩ := hI.num
  have n29 : 0 ≤ mem 35 33 ∧ mem 35 33 ≤ 12 := ⟨hI.pgs.1, hI.pgs.2.1⟩
  obtain ⟨e29, k29, r29, b29, c29⟩ := hI.g29.ls
  refine jblk hF [(.aload_n 0, 1), (.iload_n 1, 1), (.iload_n 2, 1)] (by decide +kernel) (pc' := 3) (lo' := [(0, (2, 3)), (1, (0, p)), (2, (0, n))]) (st' := [(0, n), (0, p), (2, 3)]) rfl ?_
  refine jcallV hF (c_X11_pageWith hG hK hR p n (by exact tg) (by assumption) (by omega) (by omega)) MW_X11_pageWith 12 (by decide) (by exact hK.k3) wd_869 wd_871 wd_p25 (by decide +kernel) [] rfl rfl (by decide) (Nat.le_of_ble_eq_true rfl) (by decide) (kR (fun v_1 h_2 => ?_))
  have hv := h_2
  refine jblk hF [(.astore_n 3, 1), (.aload_n 3, 1)] (by decide +kernel) (pc' := 8) (lo' := [(3, (2, v_1)), (0, (2, 3)), (1, (0, p)), (2, (0, n))]) (st' := [(2, v_1)]) rfl ?_
  refine jnonnull hF (off := 11) 19 (by decide +kernel) (by decide) (fun h_3 => ?_) (fun h_3 => ?_)
  · obtain ⟨hpg, hpo⟩ := hv.1 (by omega)
    have hk := hpo.at
    have hpb := hpo.pb
    have hgn := hpo.nm
    have hn2 := hgn.2.2.1
    have hr14 := hpo.r8 (k := 14) (by decide)
    obtain ⟨f1, f2, f3, f4, f5, f6, f7, f8, f9, f10⟩ := hpo.2.1.2.2.1 n (by omega) (by omega)
    refine jblk hF [(.aload_n 3, 1)] (by decide +kernel) (pc' := 20) (lo' := [(3, (2, v_1)), (0, (2, 3)), (1, (0, p)), (2, (0, n))]) (st' := [(2, v_1)]) rfl ?_
    refine jget hF 4 14 2 14 rfl (by decide) (by decide) rfl wd_722 (by decide +kernel) (by first | exact hk.1 | exact hr14.1) ?_
    refine jblk hF [(.iload_n 2, 1)] (by decide +kernel) (pc' := 24) (lo' := [(3, (2, v_1)), (0, (2, 3)), (1, (0, p)), (2, (0, n))]) (st' := [(0, n), (2, mem v_1 14)]) rfl ?_
    refine jlald hF (by decide +kernel) (by first | exact hk.1 | exact hr14.1) (by omega) (by omega) ?_
    refine jlret hF hr (by decide +kernel) ?_
    exact lV (by exact f7)
  · exfalso; exact (hv.2 (by omega)).1 hok
set_option maxHeartbeats 4000000 in
set_option maxRecDepth 100000 in
theorem c_X11_right {l : Launch} {g : GP} (hG : GH g) {kd : Int → Nat} {ln : Int → Int} {mem : Int → Int → Int} {sz : Nat} (hK : HK kd ln) (hR : HR mem) (p n : Int) (tg : Int → Int) (hI : INV kd ln mem sz tg) (hok : isLn mem p n) (h_p : InI p) (h_n : InI n) : MT l g yX11_right cX11_right 4 (some .long) 5 0 0 [(2, 3), (0, p), (0, n)] kd ln mem sz (pV (1, rightV mem p n) kd ln mem sz) := by
  refine MT_of hG (by decide +kernel) (Nat.le_of_ble_eq_true rfl) (fun z hF hr hn => ?_)
  obtain ⟨⟨q0, q1, q2, q3, q4, q5⟩, u0, u2, u46, u89, usz⟩ := hI.num
  have n29 : 0 ≤ mem 35 33 ∧ mem 35 33 ≤ 12 := ⟨hI.pgs.1, hI.pgs.2.1⟩
  obtain ⟨e29, k29, r29, b29, c29⟩ := hI.g29.ls
  refine jblk hF [(.aload_n 0, 1), (.iload_n 1, 1), (.iload_n 2, 1)] (by decide +kernel) (pc' := 3) (lo' := [(0, (2, 3)), (1, (0, p)), (2, (0, n))]) (st' := [(0, n), (0, p), (2, 3)]) rfl ?_
  refine jcallV hF (c_X11_pageWith hG hK hR p n (by exact tg) (by assumption) (by omega) (by omega)) MW_X11_pageWith 12 (by decide) (by exact hK.k3) wd_869 wd_871 wd_p25 (by decide +kernel) [] rfl rfl (by decide) (Nat.le_of_ble_eq_true rfl) (by decide) (kR (fun v_1 h_2 => ?_))
  have hv := h_2
  refine jblk hF [(.astore_n 3, 1), (.aload_n 3, 1)] (by decide +kernel) (pc' := 8) (lo' := [(3, (2, v_1)), (0, (2, 3)), (1, (0, p)), (2, (0, n))]) (st' := [(2, v_1)]) rfl ?_
  refine jnonnull hF (off := 11) 19 (by decide +kernel) (by decide) (fun h_3 => ?_) (fun h_3 => ?_)
  · obtain ⟨hpg, hpo⟩ := hv.1 (by omega)
    have hk := hpo.at
    have hpb := hpo.pb
    have hgn := hpo.nm
    have hn2 := hgn.2.2.1
    have hr15 := hpo.r8 (k := 15) (by decide)
    obtain ⟨f1, f2, f3, f4, f5, f6, f7, f8, f9, f10⟩ := hpo.2.1.2.2.1 n (by omega) (by omega)
    refine jblk hF [(.aload_n 3, 1)] (by decide +kernel) (pc' := 20) (lo' := [(3, (2, v_1)), (0, (2, 3)), (1, (0, p)), (2, (0, n))]) (st' := [(2, v_1)]) rfl ?_
    refine jget hF 4 15 2 15 rfl (by decide) (by decide) rfl wd_724 (by decide +kernel) (by first | exact hk.1 | exact hr15.1) ?_
    refine jblk hF [(.iload_n 2, 1)] (by decide +kernel) (pc' := 24) (lo' := [(3, (2, v_1)), (0, (2, 3)), (1, (0, p)), (2, (0, n))]) (st' := [(0, n), (2, mem v_1 15)]) rfl ?_
    refine jlald hF (by decide +kernel) (by first | exact hk.1 | exact hr15.1) (by omega) (by omega) ?_
    refine jlret hF hr (by decide +kernel) ?_
    exact lV (by exact f8)
  · exfalso; exact (hv.2 (by omega)).1 hok
set_option maxHeartbeats 4000000 in
set_option maxRecDepth 100000 in
theorem c_X11_stray {l : Launch} {g : GP} (hG : GH g) {kd : Int → Nat} {ln : Int → Int} {mem : Int → Int → Int} {sz : Nat} (hK : HK kd ln) (hR : HR mem) (p n : Int) (tg : Int → Int) (hI : INV kd ln mem sz tg) (hok : isLn mem p n) (h_p : InI p) (h_n : InI n) : MT l g yX11_stray cX11_stray 4 (some .long) 5 0 0 [(2, 3), (0, p), (0, n)] kd ln mem sz (pV (1, numT mem p n - nearP mem p n) kd ln mem sz) := by
  refine MT_of hG (by decide +kernel) (Nat.le_of_ble_eq_true rfl) (fun z hF hr hn => ?_)
  obtain ⟨⟨q0, q1, q2, q3, q4, q5⟩, u0, u2, u46, u89, usz⟩ := hI.num
  have n29 : 0 ≤ mem 35 33 ∧ mem 35 33 ≤ 12 := ⟨hI.pgs.1, hI.pgs.2.1⟩
  obtain ⟨e29, k29, r29, b29, c29⟩ := hI.g29.ls
  refine jblk hF [(.aload_n 0, 1), (.iload_n 1, 1), (.iload_n 2, 1)] (by decide +kernel) (pc' := 3) (lo' := [(0, (2, 3)), (1, (0, p)), (2, (0, n))]) (st' := [(0, n), (0, p), (2, 3)]) rfl ?_
  refine jcallV hF (c_X11_pageWith hG hK hR p n (by exact tg) (by assumption) (by omega) (by omega)) MW_X11_pageWith 12 (by decide) (by exact hK.k3) wd_869 wd_871 wd_p25 (by decide +kernel) [] rfl rfl (by decide) (Nat.le_of_ble_eq_true rfl) (by decide) (kR (fun v_1 h_2 => ?_))
  have hv := h_2
  refine jblk hF [(.astore_n 3, 1), (.aload_n 3, 1)] (by decide +kernel) (pc' := 8) (lo' := [(3, (2, v_1)), (0, (2, 3)), (1, (0, p)), (2, (0, n))]) (st' := [(2, v_1)]) rfl ?_
  refine jnonnull hF (off := 11) 19 (by decide +kernel) (by decide) (fun h_3 => ?_) (fun h_3 => ?_)
  · obtain ⟨hpg, hpo⟩ := hv.1 (by omega)
    have hk := hpo.at
    have hpb := hpo.pb
    have hgn := hpo.nm
    have hn2 := hgn.2.2.1
    have hr13 := hpo.r8 (k := 13) (by decide)
    have hr14 := hpo.r8 (k := 14) (by decide)
    obtain ⟨f1, f2, f3, f4, f5, f6, f7, f8, f9, f10⟩ := hpo.2.1.2.2.1 n (by omega) (by omega)
    refine jblk hF [(.aload_n 3, 1)] (by decide +kernel) (pc' := 20) (lo' := [(3, (2, v_1)), (0, (2, 3)), (1, (0, p)), (2, (0, n))]) (st' := [(2, v_1)]) rfl ?_
    refine jget hF 4 14 2 14 rfl (by decide) (by decide) rfl wd_722 (by decide +kernel) (by first | exact hk.1 | exact hr14.1 | exact hr13.1) ?_
    refine jblk hF [(.iload_n 2, 1)] (by decide +kernel) (pc' := 24) (lo' := [(3, (2, v_1)), (0, (2, 3)), (1, (0, p)), (2, (0, n))]) (st' := [(0, n), (2, mem v_1 14)]) rfl ?_
    refine jlald hF (by decide +kernel) (by first | exact hk.1 | exact hr14.1 | exact hr13.1) (by omega) (by omega) ?_
    refine jblk hF [(.aload_n 3, 1)] (by decide +kernel) (pc' := 26) (lo' := [(3, (2, v_1)), (0, (2, 3)), (1, (0, p)), (2, (0, n))]) (st' := [(2, v_1), (1, mem (mem v_1 14) n)]) rfl ?_
    refine jget hF 4 13 2 13 rfl (by decide) (by decide) rfl wd_720 (by decide +kernel) (by first | exact hk.1 | exact hr14.1 | exact hr13.1) ?_
    refine jblk hF [(.iload_n 2, 1)] (by decide +kernel) (pc' := 30) (lo' := [(3, (2, v_1)), (0, (2, 3)), (1, (0, p)), (2, (0, n))]) (st' := [(0, n), (2, mem v_1 13), (1, mem (mem v_1 14) n)]) rfl ?_
    refine jlald hF (by decide +kernel) (by first | exact hk.1 | exact hr14.1 | exact hr13.1) (by omega) (by omega) ?_
    refine jblk hF [(.lsub, 1)] (by decide +kernel) (pc' := 32) (lo' := [(3, (2, v_1)), (0, (2, 3)), (1, (0, p)), (2, (0, n))]) (st' := [(1, (mem (mem v_1 14) n) - (mem (mem v_1 13) n))]) rfl ?_
    refine jlret hF hr (by decide +kernel) ?_
    exact lV (by (rw [f7, f6]))
  · exfalso; exact (hv.2 (by omega)).1 hok
set_option maxHeartbeats 4000000 in
set_option maxRecDepth 100000 in
theorem c_X11_kept {l : Launch} {g : GP} (hG : GH g) {kd : Int → Nat} {ln : Int → Int} {mem : Int → Int → Int} {sz : Nat} (hK : HK kd ln) (hR : HR mem) (p n q : Int) (tg : Int → Int) (hI : INV kd ln mem sz tg) (hTN : TNS g) (hok : isLn mem p n ∧ isKn mem q) (h_p : InI p) (h_n : InI n) (h_q : InI q) : MT l g yX11_kept cX11_kept 5 (some .long) 6 0 0 [(2, 3), (0, p), (0, n), (0, q)] kd ln mem sz (pMR 1 (fun v mem' => HR mem' ∧ (v = keptV mem p (numQ mem p n q) ∧ SCF mem mem')) kd ln sz) := by
  refine MT_of hG (by decide +kernel) (Nat.le_of_ble_eq_true rfl) (fun z hF hr hn => ?_)
  obtain ⟨⟨q0, q1, q2, q3, q4, q5⟩, u0, u2, u46, u89, usz⟩ := hI.num
  have n29 : 0 ≤ mem 35 33 ∧ mem 35 33 ≤ 12 := ⟨hI.pgs.1, hI.pgs.2.1⟩
  obtain ⟨e29, k29, r29, b29, c29⟩ := hI.g29.ls
  refine jblk hF [(.aload_n 0, 1), (.iload_n 1, 1), (.iload_n 2, 1), (.iload_n 3, 1)] (by decide +kernel) (pc' := 4) (lo' := [(0, (2, 3)), (1, (0, p)), (2, (0, n)), (3, (0, q))]) (st' := [(0, q), (0, n), (0, p), (2, 3)]) rfl ?_
  refine jcallV hF (c_X11_madeWith hG hK hR p n q (by exact tg) (by assumption) (by omega) (by omega) (by omega)) MW_X11_madeWith 12 (by decide) (by exact hK.k3) wd_936 wd_938 wd_p26 (by decide +kernel) [] rfl rfl (by decide) (Nat.le_of_ble_eq_true rfl) (by decide) (kMR (fun v_3 m_1 h_2 => ?_))
  obtain ⟨hR_m_1, h_2⟩ := h_2
  have hw := h_2
  have hIm := hI.scf hw.1
  refine jblk hF [(.astore 4, 2), (.aload 4, 2)] (by decide +kernel) (pc' := 11) (lo' := [(4, (2, v_3)), (0, (2, 3)), (1, (0, p)), (2, (0, n)), (3, (0, q))]) (st' := [(2, v_3)]) rfl ?_
  refine jnonnull hF (off := 11) 22 (by decide +kernel) (by decide) (fun h_4 => ?_) (fun h_4 => ?_)
  · obtain ⟨hpg, hpo, hmd⟩ := hw.2.1 (by omega)
    have hk := hpo.at
    have hpm := hpo.scf hw.1 hI
    have hpb := hpm.pb
    have hgn := hpm.nm
    have hn2 := hgn.2.2.1
    have hn4 := hgn.2.2.2.2.1
    have hn7 := hgn.2.2.2.2.2.2.2.1
    have hc47 := hw.1.c47 p
    have hc49 := hw.1.c49 p
    have hc52 := hw.1.c52 p
    refine jblk hF [(.aload_n 0, 1)] (by decide +kernel) (pc' := 23) (lo' := [(4, (2, v_3)), (0, (2, 3)), (1, (0, p)), (2, (0, n)), (3, (0, q))]) (st' := [(2, 3)]) rfl ?_
    refine jget hF 12 9 2 9 rfl (by decide) (by decide) rfl wd_335 (by decide +kernel) (by exact hK.k3) ?_
    rw [HR.r3_9 hR_m_1]
    refine jblk hF [(.aload 4, 2), (.iload_n 2, 1)] (by decide +kernel) (pc' := 29) (lo' := [(4, (2, v_3)), (0, (2, 3)), (1, (0, p)), (2, (0, n)), (3, (0, q))]) (st' := [(0, n), (2, v_3), (2, 10)]) rfl ?_
    refine jcallV hF (c_X2_keptOf hG hK hR_m_1 v_3 n (by assumption) (by exact hk.1) (by omega) (by omega)) MW_X2_keptOf 3 (by decide) (by exact hK.k10) wd_987 wd_988 wd_989 (by decide +kernel) [] rfl rfl (by decide) (Nat.le_of_ble_eq_true rfl) (by decide) (kV ?_)
    refine jlret hF hr (by decide +kernel) ?_
    exact lMR ⟨hR_m_1, by exact ⟨hpo.kept hw.1 (hmd.1 n (by omega) (by omega)), hw.1⟩⟩
  · exfalso; exact (hw.2.2 (by omega)).1 hok
set_option maxHeartbeats 4000000 in
set_option maxRecDepth 100000 in
theorem c_X11_figure {l : Launch} {g : GP} (hG : GH g) {kd : Int → Nat} {ln : Int → Int} {mem : Int → Int → Int} {sz : Nat} (hK : HK kd ln) (hR : HR mem) (p n c q : Int) (tg : Int → Int) (hI : INV kd ln mem sz tg) (hok : figC mem p n c q) (h_p : InI p) (h_n : InI n) (h_c : InI c) (h_q : InI q) : MT l g yX11_figure cX11_figure 6 (some .long) 6 0 0 [(2, 3), (0, p), (0, n), (0, c), (0, q)] kd ln mem sz (pMR 1 (fun v mem' => HR mem' ∧ (v = (if c = 9 then numQ mem p n q else colQ mem p n c q) ∧ SCF mem mem')) kd ln sz) := by
  refine MT_of hG (by decide +kernel) (Nat.le_of_ble_eq_true rfl) (fun z hF hr hn => ?_)
  obtain ⟨⟨q0, q1, q2, q3, q4, q5⟩, u0, u2, u46, u89, usz⟩ := hI.num
  have n29 : 0 ≤ mem 35 33 ∧ mem 35 33 ≤ 12 := ⟨hI.pgs.1, hI.pgs.2.1⟩
  obtain ⟨e29, k29, r29, b29, c29⟩ := hI.g29.ls
  refine jblk hF [(.aload_n 0, 1), (.iload_n 1, 1), (.iload_n 2, 1), (.iload 4, 2)] (by decide +kernel) (pc' := 5) (lo' := [(0, (2, 3)), (1, (0, p)), (2, (0, n)), (3, (0, c)), (4, (0, q))]) (st' := [(0, q), (0, n), (0, p), (2, 3)]) rfl ?_
  refine jcallV hF (c_X11_madeWith hG hK hR p n q (by exact tg) (by assumption) (by omega) (by omega) (by omega)) MW_X11_madeWith 12 (by decide) (by exact hK.k3) wd_936 wd_938 wd_p26 (by decide +kernel) [] rfl rfl (by decide) (Nat.le_of_ble_eq_true rfl) (by decide) (kMR (fun v_3 m_1 h_2 => ?_))
  obtain ⟨hR_m_1, h_2⟩ := h_2
  have hw := h_2
  have hIm := hI.scf hw.1
  refine jblk hF [(.astore 5, 2), (.aload 5, 2)] (by decide +kernel) (pc' := 12) (lo' := [(5, (2, v_3)), (0, (2, 3)), (1, (0, p)), (2, (0, n)), (3, (0, c)), (4, (0, q))]) (st' := [(2, v_3)]) rfl ?_
  refine jnull hF (off := 13) 25 (by decide +kernel) (by decide) (fun h_4 => ?_) (fun h_4 => ?_)
  · exfalso; first | exact (hw.2.2 (by omega)).1 ⟨hok.1, hok.2.1⟩ | omega
  · obtain ⟨hpg, hpo, hmd⟩ := hw.2.1 (by omega)
    have hk := hpo.at
    have hpm := hpo.scf hw.1 hI
    have hpb := hpm.pb
    have hgn := hpm.nm
    have hn2 := hgn.2.2.1
    have hn4 := hgn.2.2.2.2.1
    have hn7 := hgn.2.2.2.2.2.2.2.1
    have hc47 := hw.1.c47 p
    have hc49 := hw.1.c49 p
    have hc52 := hw.1.c52 p
    have hmo : n % m_1 v_3 7 = n % mem 52 p := by rw [hn7, hc52]
    refine jblk hF [(.aload 5, 2), (.iload_n 2, 1), (.iload_n 3, 1)] (by decide +kernel) (pc' := 19) (lo' := [(5, (2, v_3)), (0, (2, 3)), (1, (0, p)), (2, (0, n)), (3, (0, c)), (4, (0, q))]) (st' := [(0, c), (0, n), (2, v_3)]) rfl ?_
    refine jcallV hF (c_X3_hasColumn hG v_3 n c (by exact hk.1) (by omega) (by assumption) (by omega) (by omega)) MW_X3_hasColumn 4 (by decide) (by first | assumption | omega) wd_1418 wd_1419 wd_1420 (by decide +kernel) [] rfl rfl (by decide) (Nat.le_of_ble_eq_true rfl) (by decide) (kB (fun h_5 => ?_) (fun h_5 => ?_))
    · refine jif_ne hF (off := 11) 33 (by decide +kernel) (by decide) (by decide) (fun _ => ?_) (fun h => absurd h (by decide))
      refine jblk hF [(.iload_n 3, 1), (.bipush 9, 2)] (by decide +kernel) (pc' := 36) (lo' := [(5, (2, v_3)), (0, (2, 3)), (1, (0, p)), (2, (0, n)), (3, (0, c)), (4, (0, q))]) (st' := [(0, 9), (0, c)]) rfl ?_
      refine jicmp_ne hF (off := 15) 51 (by decide +kernel) (by decide) (by omega) (by decide) (fun h_7 => ?_) (fun h_7 => ?_)
      · refine jblk hF [(.aload_n 0, 1)] (by decide +kernel) (pc' := 52) (lo' := [(5, (2, v_3)), (0, (2, 3)), (1, (0, p)), (2, (0, n)), (3, (0, c)), (4, (0, q))]) (st' := [(2, 3)]) rfl ?_
        refine jget hF 12 9 2 9 rfl (by decide) (by decide) rfl wd_335 (by decide +kernel) (by exact hK.k3) ?_
        rw [HR.r3_9 hR_m_1]
        refine jget hF 3 1 2 1 rfl (by decide) (by decide) rfl wd_201 (by decide +kernel) (by exact hK.k10) ?_
        rw [HR.r10_1 hR_m_1]
        refine jblk hF [(.iload_n 2, 1), (.iconst 5, 1), (.imul, 1), (.iload_n 3, 1), (.iadd, 1)] (by decide +kernel) (pc' := 63) (lo' := [(5, (2, v_3)), (0, (2, 3)), (1, (0, p)), (2, (0, n)), (3, (0, c)), (4, (0, q))]) (st' := [(0, (n * 5) + c), (2, 12)]) rfl ?_
        refine jlald hF (by decide +kernel) (by exact hK.k12) (by omega) (by have := hK.l12; omega) ?_
        refine jlret hF hr (by decide +kernel) ?_
        exact lMR ⟨hR_m_1, by first | exact ⟨by rw [if_pos (by omega)]; exact hmd.1 n (by omega) (by omega), hw.1⟩ | exact ⟨by rw [if_neg (by omega)]; exact hmd.2 n c (by omega) (by omega) (by omega) (by omega) (by omega), hw.1⟩⟩
      · refine jblk hF [(.aload_n 0, 1)] (by decide +kernel) (pc' := 40) (lo' := [(5, (2, v_3)), (0, (2, 3)), (1, (0, p)), (2, (0, n)), (3, (0, c)), (4, (0, q))]) (st' := [(2, 3)]) rfl ?_
        refine jget hF 12 9 2 9 rfl (by decide) (by decide) rfl wd_335 (by decide +kernel) (by exact hK.k3) ?_
        rw [HR.r3_9 hR_m_1]
        refine jget hF 3 0 2 0 rfl (by decide) (by decide) rfl wd_199 (by decide +kernel) (by exact hK.k10) ?_
        rw [HR.r10_0 hR_m_1]
        refine jblk hF [(.iload_n 2, 1)] (by decide +kernel) (pc' := 47) (lo' := [(5, (2, v_3)), (0, (2, 3)), (1, (0, p)), (2, (0, n)), (3, (0, c)), (4, (0, q))]) (st' := [(0, n), (2, 11)]) rfl ?_
        refine jlald hF (by decide +kernel) (by exact hK.k11) (by omega) (by have := hK.l11; omega) ?_
        refine jgoto hF (off := 16) 64 (by decide +kernel) (by decide) ?_
        refine jlret hF hr (by decide +kernel) ?_
        exact lMR ⟨hR_m_1, by first | exact ⟨by rw [if_pos (by omega)]; exact hmd.1 n (by omega) (by omega), hw.1⟩ | exact ⟨by rw [if_neg (by omega)]; exact hmd.2 n c (by omega) (by omega) (by omega) (by omega) (by omega), hw.1⟩⟩
    · refine jif_ne hF (off := 11) 33 (by decide +kernel) (by decide) (by decide) (fun h => absurd h (by decide)) (fun _ => ?_)
      exfalso; first | exact (hw.2.2 (by omega)).1 ⟨hok.1, hok.2.1⟩ | omega
set_option maxHeartbeats 4000000 in
set_option maxRecDepth 100000 in
theorem c_X11_check {l : Launch} {g : GP} (hG : GH g) {kd : Int → Nat} {ln : Int → Int} {mem : Int → Int → Int} {sz : Nat} (hK : HK kd ln) (hR : HR mem) (p n q : Int) (tg : Int → Int) (hI : INV kd ln mem sz tg) (h_p : InI p) (h_n : InI n) (h_q : InI q) : MT l g yX11_check cX11_check 5 (some .int) 6 0 0 [(2, 3), (0, p), (0, n), (0, q)] kd ln mem sz (pMR 0 (fun v mem' => HR mem' ∧ (SCF mem mem' ∧ ((isLn mem p n ∧ isKn mem q) → v = (if hldA mem p (adS mem p q) n then 1 else 0)) ∧ (¬ (isLn mem p n ∧ isKn mem q) → v = -1))) kd ln sz) := by
  refine MT_of hG (by decide +kernel) (Nat.le_of_ble_eq_true rfl) (fun z hF hr hn => ?_)
  obtain ⟨⟨q0, q1, q2, q3, q4, q5⟩, u0, u2, u46, u89, usz⟩ := hI.num
  have n29 : 0 ≤ mem 35 33 ∧ mem 35 33 ≤ 12 := ⟨hI.pgs.1, hI.pgs.2.1⟩
  obtain ⟨e29, k29, r29, b29, c29⟩ := hI.g29.ls
  refine jblk hF [(.aload_n 0, 1), (.iload_n 1, 1), (.iload_n 2, 1), (.iload_n 3, 1)] (by decide +kernel) (pc' := 4) (lo' := [(0, (2, 3)), (1, (0, p)), (2, (0, n)), (3, (0, q))]) (st' := [(0, q), (0, n), (0, p), (2, 3)]) rfl ?_
  refine jcallV hF (c_X11_madeWith hG hK hR p n q (by exact tg) (by assumption) (by omega) (by omega) (by omega)) MW_X11_madeWith 12 (by decide) (by exact hK.k3) wd_936 wd_938 wd_p26 (by decide +kernel) [] rfl rfl (by decide) (Nat.le_of_ble_eq_true rfl) (by decide) (kMR (fun v_3 m_1 h_2 => ?_))
  obtain ⟨hR_m_1, h_2⟩ := h_2
  have hw := h_2
  have hIm := hI.scf hw.1
  refine jblk hF [(.astore 4, 2), (.aload 4, 2)] (by decide +kernel) (pc' := 11) (lo' := [(4, (2, v_3)), (0, (2, 3)), (1, (0, p)), (2, (0, n)), (3, (0, q))]) (st' := [(2, v_3)]) rfl ?_
  refine jnonnull hF (off := 5) 16 (by decide +kernel) (by decide) (fun h_4 => ?_) (fun h_4 => ?_)
  · obtain ⟨hpg, hpo, hmd⟩ := hw.2.1 (by omega)
    have hk := hpo.at
    have hpm := hpo.scf hw.1 hI
    have hpb := hpm.pb
    have hgn := hpm.nm
    have hn2 := hgn.2.2.1
    have hn4 := hgn.2.2.2.2.1
    have hn7 := hgn.2.2.2.2.2.2.2.1
    have hc47 := hw.1.c47 p
    have hc49 := hw.1.c49 p
    have hc52 := hw.1.c52 p
    have h11 := hpm.r4 (k := 11) (by decide) (by decide)
    have h12 := hpm.r4 (k := 12) (by decide) (by decide)
    have h13 := hpm.r8 (k := 13) (Or.inl rfl)
    have hci := hpm.ci
    have hsc := hw.1
    refine jblk hF [(.aload_n 0, 1)] (by decide +kernel) (pc' := 17) (lo' := [(4, (2, v_3)), (0, (2, 3)), (1, (0, p)), (2, (0, n)), (3, (0, q))]) (st' := [(2, 3)]) rfl ?_
    refine jget hF 12 9 2 9 rfl (by decide) (by decide) rfl wd_335 (by decide +kernel) (by exact hK.k3) ?_
    rw [HR.r3_9 hR_m_1]
    refine jblk hF [(.aload 4, 2), (.iload_n 2, 1)] (by decide +kernel) (pc' := 23) (lo' := [(4, (2, v_3)), (0, (2, 3)), (1, (0, p)), (2, (0, n)), (3, (0, q))]) (st' := [(0, n), (2, v_3), (2, 10)]) rfl ?_
    refine jcallV hF (c_X2_holds hG hK hR_m_1 v_3 n (by exact hk.1) (by omega) (by exact hpb) (by omega) (by omega) (by exact ⟨h11.1, h11.2.1⟩) (by exact ⟨h12.1, h12.2.1⟩) (by exact ⟨h13.1, h13.2.1⟩) (by exact hci)) MW_X2_holds 3 (by decide) (by exact hK.k10) wd_1018 wd_969 wd_970 (by decide +kernel) [] rfl rfl (by decide) (Nat.le_of_ble_eq_true rfl) (by decide) (kB (fun h_5 => ?_) (fun h_5 => ?_))
    · have hhl := hpo.hld hw.1 hmd (n := n) (by omega) (by omega)
      refine jif_eq hF (off := 7) 33 (by decide +kernel) (by decide) (by decide) (fun h => absurd h (by decide)) (fun _ => ?_)
      refine jblk hF [(.iconst 1, 1)] (by decide +kernel) (pc' := 30) (lo' := [(4, (2, v_3)), (0, (2, 3)), (1, (0, p)), (2, (0, n)), (3, (0, q))]) (st' := [(0, 1)]) rfl ?_
      refine jgoto hF (off := 4) 34 (by decide +kernel) (by decide) ?_
      refine jiret hF hr (by decide +kernel) ?_
      exact lMR ⟨hR_m_1, by first | exact ⟨hsc, fun _ => (if_pos (hhl.mp (by assumption))).symm, fun w => absurd hpg w⟩ | exact ⟨hsc, fun _ => (if_neg (fun u => absurd (hhl.mpr u) (by assumption))).symm, fun w => absurd hpg w⟩⟩
    · have hhl := hpo.hld hw.1 hmd (n := n) (by omega) (by omega)
      refine jif_eq hF (off := 7) 33 (by decide +kernel) (by decide) (by decide) (fun _ => ?_) (fun h => absurd h (by decide))
      refine jblk hF [(.iconst 0, 1)] (by decide +kernel) (pc' := 34) (lo' := [(4, (2, v_3)), (0, (2, 3)), (1, (0, p)), (2, (0, n)), (3, (0, q))]) (st' := [(0, 0)]) rfl ?_
      refine jiret hF hr (by decide +kernel) ?_
      exact lMR ⟨hR_m_1, by first | exact ⟨hsc, fun _ => (if_pos (hhl.mp (by assumption))).symm, fun w => absurd hpg w⟩ | exact ⟨hsc, fun _ => (if_neg (fun u => absurd (hhl.mpr u) (by assumption))).symm, fun w => absurd hpg w⟩⟩
  · have hng := (hw.2.2 (by omega)).1
    refine jblk hF [(.iconst (-1), 1)] (by decide +kernel) (pc' := 15) (lo' := [(4, (2, v_3)), (0, (2, 3)), (1, (0, p)), (2, (0, n)), (3, (0, q))]) (st' := [(0, (-1))]) rfl ?_
    refine jiret hF hr (by decide +kernel) ?_
    exact lMR ⟨hR_m_1, by exact ⟨hw.1, fun w => absurd w hng, fun _ => rfl⟩⟩
set_option maxHeartbeats 4000000 in
set_option maxRecDepth 100000 in
theorem c_X11_fails {l : Launch} {g : GP} (hG : GH g) {kd : Int → Nat} {ln : Int → Int} {mem : Int → Int → Int} {sz : Nat} (hK : HK kd ln) (hR : HR mem) (p q : Int) (tg : Int → Int) (hI : INV kd ln mem sz tg) (h_p : InI p) (h_q : InI q) : MT l g yX11_fails cX11_fails 4 (some .int) 6 0 0 [(2, 3), (0, p), (0, q)] kd ln mem sz (pMR 0 (fun v mem' => HR mem' ∧ (SCF mem mem' ∧ ((isPg mem p ∧ isKn mem q) → v = flN mem p (adS mem p q) (mem 47 p).toNat) ∧ (¬ (isPg mem p ∧ isKn mem q) → v = -1))) kd ln sz) := by
  refine MT_of hG (by decide +kernel) (Nat.le_of_ble_eq_true rfl) (fun z hF hr hn => ?_)
  obtain ⟨⟨q0, q1, q2, q3, q4, q5⟩, u0, u2, u46, u89, usz⟩ := hI.num
  have n29 : 0 ≤ mem 35 33 ∧ mem 35 33 ≤ 12 := ⟨hI.pgs.1, hI.pgs.2.1⟩
  obtain ⟨e29, k29, r29, b29, c29⟩ := hI.g29.ls
  refine jblk hF [(.aload_n 0, 1), (.iload_n 1, 1), (.iload_n 2, 1)] (by decide +kernel) (pc' := 3) (lo' := [(0, (2, 3)), (1, (0, p)), (2, (0, q))]) (st' := [(0, q), (0, p), (2, 3)]) rfl ?_
  refine jcallV hF (c_X11_madePage hG hK hR p q (by exact tg) (by assumption) (by omega) (by omega)) MW_X11_madePage 12 (by decide) (by exact hK.k3) wd_940 wd_942 wd_p27 (by decide +kernel) [] rfl rfl (by decide) (Nat.le_of_ble_eq_true rfl) (by decide) (kMR (fun v_3 m_1 h_2 => ?_))
  obtain ⟨hR_m_1, h_2⟩ := h_2
  have hw := h_2
  have hIm := hI.scf hw.1
  refine jblk hF [(.astore_n 3, 1), (.aload_n 3, 1)] (by decide +kernel) (pc' := 8) (lo' := [(3, (2, v_3)), (0, (2, 3)), (1, (0, p)), (2, (0, q))]) (st' := [(2, v_3)]) rfl ?_
  refine jnonnull hF (off := 7) 15 (by decide +kernel) (by decide) (fun h_4 => ?_) (fun h_4 => ?_)
  · obtain ⟨hpg, hpo, hmd⟩ := hw.2.1 (by omega)
    have hk := hpo.at
    have hpm := hpo.scf hw.1 hI
    have hpb := hpm.pb
    have hgn := hpm.nm
    have hn2 := hgn.2.2.1
    have hn4 := hgn.2.2.2.2.1
    have hn7 := hgn.2.2.2.2.2.2.2.1
    have hc47 := hw.1.c47 p
    have hc49 := hw.1.c49 p
    have hc52 := hw.1.c52 p
    have h11 := hpm.r4 (k := 11) (by decide) (by decide)
    have h12 := hpm.r4 (k := 12) (by decide) (by decide)
    have h13 := hpm.r8 (k := 13) (Or.inl rfl)
    have hci := hpm.ci
    have hsc := hw.1
    refine jblk hF [(.aload_n 0, 1)] (by decide +kernel) (pc' := 16) (lo' := [(3, (2, v_3)), (0, (2, 3)), (1, (0, p)), (2, (0, q))]) (st' := [(2, 3)]) rfl ?_
    refine jget hF 12 9 2 9 rfl (by decide) (by decide) rfl wd_335 (by decide +kernel) (by exact hK.k3) ?_
    rw [HR.r3_9 hR_m_1]
    refine jblk hF [(.aload_n 3, 1), (.iconst 0, 1), (.aload_n 3, 1)] (by decide +kernel) (pc' := 22) (lo' := [(3, (2, v_3)), (0, (2, 3)), (1, (0, p)), (2, (0, q))]) (st' := [(2, v_3), (0, 0), (2, v_3), (2, 10)]) rfl ?_
    refine jget hF 4 2 0 2 rfl (by decide) (by decide) rfl wd_697 (by decide +kernel) (by first | assumption | omega) ?_
    refine jcallV hF (c_X2_failsFrom hG hK hR_m_1 v_3 0 (m_1 v_3 2) (by exact hk.1) (by omega) (by exact hpb) (by omega) (by omega) (by exact ⟨h11.1, h11.2.1⟩) (by exact ⟨h12.1, h12.2.1⟩) (by exact ⟨h13.1, h13.2.1⟩) (by exact hci)) MW_X2_failsFrom 3 (by decide) (by exact hK.k10) wd_964 wd_965 wd_966 (by decide +kernel) [] rfl rfl (by decide) (Nat.le_of_ble_eq_true rfl) (by decide) (kV ?_)
    refine jiret hF hr (by decide +kernel) ?_
    exact lMR ⟨hR_m_1, by first | exact ⟨hw.1, fun w => absurd w hng, fun _ => rfl⟩ | exact ⟨hsc, fun _ => by rw [Int.sub_zero, hn2, hc47]; exact hpo.fls hw.1 hmd, fun w => absurd hpg w⟩⟩
  · have hng := (hw.2.2 (by omega)).1
    refine jblk hF [(.iconst (-1), 1)] (by decide +kernel) (pc' := 12) (lo' := [(3, (2, v_3)), (0, (2, 3)), (1, (0, p)), (2, (0, q))]) (st' := [(0, (-1))]) rfl ?_
    refine jgoto hF (off := 16) 28 (by decide +kernel) (by decide) ?_
    refine jiret hF hr (by decide +kernel) ?_
    exact lMR ⟨hR_m_1, by first | exact ⟨hw.1, fun w => absurd w hng, fun _ => rfl⟩ | exact ⟨hsc, fun _ => by rw [Int.sub_zero, hn2, hc47]; exact hpo.fls hw.1 hmd, fun w => absurd hpg w⟩⟩
set_option maxHeartbeats 4000000 in
set_option maxRecDepth 100000 in
theorem c_X11_wrong {l : Launch} {g : GP} (hG : GH g) {kd : Int → Nat} {ln : Int → Int} {mem : Int → Int → Int} {sz : Nat} (hK : HK kd ln) (hR : HR mem) (p q : Int) (tg : Int → Int) (hI : INV kd ln mem sz tg) (hTN : TNS g) (h_p : InI p) (h_q : InI q) : MT l g yX11_wrong cX11_wrong 6 (some .int) 5 0 0 [(2, 3), (0, p), (0, q)] kd ln mem sz (pMR 0 (fun v mem' => HR mem' ∧ (SCF mem mem' ∧ ((isPg mem p ∧ isKn mem q) → v = wrongN mem p q (mem 47 p).toNat) ∧ (¬ (isPg mem p ∧ isKn mem q) → v = -1))) kd ln sz) := by
  refine MT_of hG (by decide +kernel) (Nat.le_of_ble_eq_true rfl) (fun z hF hr hn => ?_)
  obtain ⟨⟨q0, q1, q2, q3, q4, q5⟩, u0, u2, u46, u89, usz⟩ := hI.num
  have n29 : 0 ≤ mem 35 33 ∧ mem 35 33 ≤ 12 := ⟨hI.pgs.1, hI.pgs.2.1⟩
  obtain ⟨e29, k29, r29, b29, c29⟩ := hI.g29.ls
  refine jblk hF [(.aload_n 0, 1), (.iload_n 1, 1), (.iload_n 2, 1)] (by decide +kernel) (pc' := 3) (lo' := [(0, (2, 3)), (1, (0, p)), (2, (0, q))]) (st' := [(0, q), (0, p), (2, 3)]) rfl ?_
  refine jcallV hF (c_X11_madePage hG hK hR p q (by exact tg) (by assumption) (by omega) (by omega)) MW_X11_madePage 12 (by decide) (by exact hK.k3) wd_940 wd_942 wd_p27 (by decide +kernel) [] rfl rfl (by decide) (Nat.le_of_ble_eq_true rfl) (by decide) (kMR (fun v_3 m_1 h_2 => ?_))
  obtain ⟨hR_m_1, h_2⟩ := h_2
  have hw := h_2
  have hIm := hI.scf hw.1
  refine jblk hF [(.astore_n 3, 1), (.aload_n 3, 1)] (by decide +kernel) (pc' := 8) (lo' := [(3, (2, v_3)), (0, (2, 3)), (1, (0, p)), (2, (0, q))]) (st' := [(2, v_3)]) rfl ?_
  refine jnonnull hF (off := 5) 13 (by decide +kernel) (by decide) (fun h_4 => ?_) (fun h_4 => ?_)
  · obtain ⟨hpg, hpo, hmd⟩ := hw.2.1 (by omega)
    have hk := hpo.at
    have hpm := hpo.scf hw.1 hI
    have hpb := hpm.pb
    have hgn := hpm.nm
    have hn2 := hgn.2.2.1
    have hn4 := hgn.2.2.2.2.1
    have hn7 := hgn.2.2.2.2.2.2.2.1
    have hc47 := hw.1.c47 p
    have hc49 := hw.1.c49 p
    have hc52 := hw.1.c52 p
    have hsc := hw.1
    have hr15 := hpm.r8 (k := 15) (by decide)
    refine jblk hF [(.iconst 0, 1), (.istore 4, 2), (.iconst 0, 1), (.istore 5, 2)] (by decide +kernel) (pc' := 19) (lo' := [(5, (0, 0)), (4, (0, 0)), (3, (2, v_3)), (0, (2, 3)), (1, (0, p)), (2, (0, q))]) (st' := []) rfl ?_
    have L_6 : ∀ (fu_7 : Nat) (c : Int) (n : Int), (0 ≤ n ∧ n ≤ mem 47 p) → (c = wrongN mem p q n.toNat) →  (mem 47 p - n).toNat < fu_7 → J z g 6 0 0 (QM z g 0 0 (pMR 0 (fun v mem' => HR mem' ∧ (SCF mem mem' ∧ ((isPg mem p ∧ isKn mem q) → v = wrongN mem p q (mem 47 p).toNat) ∧ (¬ (isPg mem p ∧ isKn mem q) → v = -1))) kd ln sz)) 19 [(0, (2, 3)), (1, (0, p)), (2, (0, q)), (3, (2, v_3)), (4, (0, c)), (5, (0, n))] [] kd ln m_1 sz := by
      intro fu_7
      induction fu_7 with
      | zero => intro c n _ _ hm; omega
      | succ fu_7 ih_5 =>
        intro c n hi hc hm
        have hcb := wrongN_bd mem p q n.toNat
        refine jblk hF [(.iload 5, 2), (.aload_n 3, 1)] (by decide +kernel) (pc' := 22) (lo' := [(0, (2, 3)), (1, (0, p)), (2, (0, q)), (3, (2, v_3)), (4, (0, c)), (5, (0, n))]) (st' := [(2, v_3), (0, n)]) rfl ?_
        refine jget hF 4 2 0 2 rfl (by decide) (by decide) rfl wd_697 (by decide +kernel) (by first | exact hk.1 | exact hr15.1) ?_
        refine jicmp_ge hF (off := 33) 58 (by decide +kernel) (by decide) (by omega) (by omega) (fun h_8 => ?_) (fun h_8 => ?_)
        · refine jblk hF [(.iload 4, 2)] (by decide +kernel) (pc' := 60) (lo' := [(0, (2, 3)), (1, (0, p)), (2, (0, q)), (3, (2, v_3)), (4, (0, c)), (5, (0, n))]) (st' := [(0, c)]) rfl ?_
          refine jiret hF hr (by decide +kernel) ?_
          exact lMR ⟨hR_m_1, by exact ⟨hsc, fun _ => by rw [hc, show n = mem 47 p by omega], fun w => absurd hpg w⟩⟩
        · have hkv := hpo.kept hsc (hmd.1 n (by omega) (by omega))
          have hrv := hpm.2.1.2.2.1 n (by omega) (by omega)
          refine jblk hF [(.aload_n 0, 1)] (by decide +kernel) (pc' := 29) (lo' := [(0, (2, 3)), (1, (0, p)), (2, (0, q)), (3, (2, v_3)), (4, (0, c)), (5, (0, n))]) (st' := [(2, 3)]) rfl ?_
          refine jget hF 12 9 2 9 rfl (by decide) (by decide) rfl wd_335 (by decide +kernel) (by exact hK.k3) ?_
          rw [HR.r3_9 hR_m_1]
          refine jblk hF [(.aload_n 3, 1), (.iload 5, 2)] (by decide +kernel) (pc' := 35) (lo' := [(0, (2, 3)), (1, (0, p)), (2, (0, q)), (3, (2, v_3)), (4, (0, c)), (5, (0, n))]) (st' := [(0, n), (2, v_3), (2, 10)]) rfl ?_
          refine jcallV hF (c_X2_keptOf hG hK hR_m_1 v_3 n (by assumption) (by exact hk.1) (by omega) (by omega)) MW_X2_keptOf 3 (by decide) (by exact hK.k10) wd_987 wd_988 wd_989 (by decide +kernel) [] rfl rfl (by decide) (Nat.le_of_ble_eq_true rfl) (by decide) (kV ?_)
          refine jblk hF [(.aload_n 3, 1)] (by decide +kernel) (pc' := 39) (lo' := [(0, (2, 3)), (1, (0, p)), (2, (0, q)), (3, (2, v_3)), (4, (0, c)), (5, (0, n))]) (st' := [(2, v_3), (1, nearBy (wL (m_1 11 n)) (10 ^ (m_1 v_3 6).toNat) (m_1 v_3 8))]) rfl ?_
          refine jget hF 4 15 2 15 rfl (by decide) (by decide) rfl wd_724 (by decide +kernel) (by first | exact hk.1 | exact hr15.1) ?_
          refine jblk hF [(.iload 5, 2)] (by decide +kernel) (pc' := 44) (lo' := [(0, (2, 3)), (1, (0, p)), (2, (0, q)), (3, (2, v_3)), (4, (0, c)), (5, (0, n))]) (st' := [(0, n), (2, m_1 v_3 15), (1, nearBy (wL (m_1 11 n)) (10 ^ (m_1 v_3 6).toNat) (m_1 v_3 8))]) rfl ?_
          refine jlald hF (by decide +kernel) (by first | exact hk.1 | exact hr15.1) (by omega) (by omega) ?_
          rw [hkv, hrv.2.2.2.2.2.2.2.1, hsc.crv p n]
          refine jlcmpW_eq hF (off := 6) 52 (by decide +kernel) (by decide +kernel) (by decide) (fun h_9 => ?_) (fun h_9 => ?_)
          · refine jblk hF [(.iinc 5 1, 3)] (by decide +kernel) (pc' := 55) (lo' := [(5, (0, n + 1)), (0, (2, 3)), (1, (0, p)), (2, (0, q)), (3, (2, v_3)), (4, (0, c))]) (st' := []) rfl ?_
            refine jgoto hF (off := (-36)) 19 (by decide +kernel) (by decide) ?_
            refine jsub [1, 2, 3, 4, 5, 0] rfl ?_
            refine ih_5 c (n + 1) ?_ ?_ ?_
            · omega
            · (rw [wrongN_s (by omega)]; first | (rw [if_pos (keq hpo.2.2 (by omega) (by omega) (by assumption))]; omega) | (rw [if_neg (fun u => absurd (congrArg wL u) (by assumption))]; omega))
            · omega
          · refine jblk hF [(.iinc 4 1, 3), (.iinc 5 1, 3)] (by decide +kernel) (pc' := 55) (lo' := [(5, (0, n + 1)), (4, (0, c + 1)), (0, (2, 3)), (1, (0, p)), (2, (0, q)), (3, (2, v_3))]) (st' := []) rfl ?_
            refine jgoto hF (off := (-36)) 19 (by decide +kernel) (by decide) ?_
            refine jsub [2, 3, 4, 5, 1, 0] rfl ?_
            refine ih_5 (c + 1) (n + 1) ?_ ?_ ?_
            · omega
            · (rw [wrongN_s (by omega)]; first | (rw [if_pos (keq hpo.2.2 (by omega) (by omega) (by assumption))]; omega) | (rw [if_neg (fun u => absurd (congrArg wL u) (by assumption))]; omega))
            · omega
    refine jsub [3, 4, 5, 2, 1, 0] rfl ?_
    refine L_6 _ 0 0 ?_ ?_ (Nat.lt_succ_self _)
    · omega
    · rfl
  · have hng := (hw.2.2 (by omega)).1
    refine jblk hF [(.iconst (-1), 1)] (by decide +kernel) (pc' := 12) (lo' := [(3, (2, v_3)), (0, (2, 3)), (1, (0, p)), (2, (0, q))]) (st' := [(0, (-1))]) rfl ?_
    refine jiret hF hr (by decide +kernel) ?_
    exact lMR ⟨hR_m_1, by exact ⟨hw.1, fun w => absurd w hng, fun _ => rfl⟩⟩
end
