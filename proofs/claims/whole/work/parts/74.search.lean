section
theorem trc_up {m : Int → Int → Int} {u a b e : Int} {tl tc ta : Int → Int} {mm : Int → Int → Int} (h : TRC m u tl tc ta) (h6 : ∀ j : Int, j ≠ u → mm 16 j = m 16 j) (h7 : ∀ j : Int, j ≠ u → mm 17 j = m 17 j) (h8 : ∀ j : Int, j ≠ u → mm 18 j = m 18 j) (ha : mm 16 u = a) (hb : mm 17 u = b) (he : mm 18 u = e) : TRC mm (u + 1) (upI tl u a) (upI tc u b) (upI ta u e) := by
  intro j h1 h2
  unfold upI
  by_cases q : j = u
  · subst q
    rw [if_pos rfl, if_pos rfl, if_pos rfl]
    exact ⟨ha, hb, he⟩
  · rw [if_neg q, if_neg q, if_neg q, h6 j q, h7 j q, h8 j q]
    exact h j h1 (by omega)
theorem trc_dn {m : Int → Int → Int} {u a b e : Int} {tl tc ta : Int → Int} (h : TRC m (u + 1) (upI tl u a) (upI tc u b) (upI ta u e)) (hu : 0 ≤ u) : TRC m u tl tc ta ∧ m 16 u = a ∧ m 18 u = e := by
  refine ⟨fun j h1 h2 => ?_, ?_, ?_⟩
  · have := h j h1 (by omega)
    unfold upI at this
    rw [if_neg (by omega), if_neg (by omega), if_neg (by omega)] at this
    exact this
  · have := (h u hu (by omega)).1
    unfold upI at this
    rw [if_pos rfl] at this
    exact this
  · have := (h u hu (by omega)).2.2
    unfold upI at this
    rw [if_pos rfl] at this
    exact this
theorem TRC.of {m mm : Int → Int → Int} {u : Int} {tl tc ta : Int → Int} (h : TRC m u tl tc ta) (e : mm 16 = m 16 ∧ mm 17 = m 17 ∧ mm 18 = m 18) : TRC mm u tl tc ta := by
  intro j h1 h2
  rw [e.1, e.2.1, e.2.2]
  exact h j h1 h2
theorem SKP.of {m mm : Int → Int → Int} {S : ST} (h : SKP m S) (e : ∀ a j : Int, a ≠ 15 → a ≠ 16 → a ≠ 17 → a ≠ 18 → mm a j = m a j) : SKP mm S := ⟨(e _ _ (by decide) (by decide) (by decide) (by decide)).trans h.1, (e _ _ (by decide) (by decide) (by decide) (by decide)).trans h.2.1, (funext fun j => e _ _ (by decide) (by decide) (by decide) (by decide)).trans h.2.2.1, (funext fun j => e _ _ (by decide) (by decide) (by decide) (by decide)).trans h.2.2.2.1, (funext fun j => e _ _ (by decide) (by decide) (by decide) (by decide)).trans h.2.2.2.2⟩
theorem seekPT {N o : Int} {d : Nat} {u : Int} {rs : Int → Int} {i : Int} {tl tc ta : Int → Int} {S : ST} (hu : u = 4 - (d : Int)) (hk : skipN rs i (N - i).toNat = N) : seekP N o d rs i tl tc ta S = finP u tl tc ta S := by
  cases d with
  | zero => rw [hu]; unfold seekP; exact if_pos hk
  | succ d => rw [show u = 3 - (d : Int) by omega]; unfold seekP; exact if_pos hk
theorem seekPZ {N o : Int} {d : Nat} {u : Int} {rs : Int → Int} {i : Int} {tl tc ta : Int → Int} {S : ST} (hu : u = 4 - (d : Int)) (hk : ¬ skipN rs i (N - i).toNat = N) (h : 4 ≤ u ∨ S.1 ≤ u) : seekP N o d rs i tl tc ta S = S := by
  cases d with
  | zero => unfold seekP; exact if_neg hk
  | succ d =>
    show (if _ then _ else _) = _
    rw [if_neg hk]
    exact if_pos (by omega)
theorem seekPL {N o : Int} {d : Nat} {u k : Int} {rs : Int → Int} {i : Int} {tl tc ta : Int → Int} {S : ST} (hu : u = 3 - (d : Int)) (hk : skipN rs i (N - i).toNat = k) (hn : ¬ k = N) (hS : u < S.1) : seekP N o (d + 1) rs i tl tc ta S = foldC (fun c => seekP N o d (markJ N rs k (tmC o c) (-(rs k)) (tmC o c + 1)) (k + 1) (upI tl u k) (upI tc u (coC o c)) (upI ta u (rs k))) (o + 1).toNat S := by
  subst hk
  subst hu
  show (if _ then _ else _) = _
  rw [if_neg hn]
  exact if_neg (by omega)
/-- how large what is left over can be -/
def BRS (N n B : Int) (rs : Int → Int) : Prop := ∀ x : Int, n ≤ x → x < N → -B ≤ rs x ∧ rs x ≤ B
theorem BRS.mark {N n k t B : Int} {rs : Int → Int} (h : BRS N n B rs) (hk : n ≤ k ∧ k < N) (ht : 0 ≤ t ∧ t ≤ 5) (hB : 0 ≤ B) : BRS N (k + 1) (B * 11) (markJ N rs k t (-(rs k)) (t + 1)) := by
  intro x h1 h2
  have hx := h x (by omega) h2
  have hq := h k hk.1 hk.2
  by_cases c : k ≤ x ∧ x < k + (t + 1) ∧ x < N
  · rw [markJ_in c]
    have hc := cf_e (t := t) (i := x - k) ht (by omega)
    have hm := mul_abs (a := (if (x - k) % 2 = 0 then -(rs k) else -(-(rs k)))) (b := chN t (x - k).toNat) (A := B) (B := 10) (by split <;> omega) (by omega)
    omega
  · rw [markJ_out c]; omega
def SKR (mem mm : Int → Int → Int) (u : Int) (d : Nat) (rs : Int → Int) (n : Int) (tl tc ta : Int → Int) (S : ST) : Prop := FSC mem mm ∧ mm 15 = mem 15 ∧ TRC mm u tl tc ta ∧ SKP mm (seekP (mem 14 7) (mem 14 8) d rs n tl tc ta S)
theorem BRS.le {N n k B : Int} {rs : Int → Int} (h : BRS N n B rs) (hk : n ≤ k) : BRS N k B rs := fun x h1 h2 => h x (by omega) h2
set_option maxHeartbeats 4000000 in
set_option maxRecDepth 100000 in
theorem c_sk4 {l : Launch} {g : GP} (hG : GH g) {kd : Int → Nat} {ln : Int → Int} {mem : Int → Int → Int} {sz : Nat} (hK : HK kd ln) (hR : HR mem) (u n : Int) (rs : Int → Int) (tl : Int → Int) (tc : Int → Int) (ta : Int → Int) (S : ST) (hu : u = 4) (hni : 0 ≤ n ∧ n ≤ mem 14 7) (hN : mem 14 7 ≤ 40) (ho : 0 ≤ mem 14 8 ∧ mem 14 8 ≤ 4) (hrs : mem 15 = rs) (htr : TRC mem 4 tl tc ta) (hst : SKP mem S) (hsb : SBP S) (hbd : BRS (mem 14 7) n 58564000000000 rs) : MT l g yX6_seek cX6_seek 4 none 1 0 0 [(2, 14), (0, u), (0, n)] kd ln mem sz (pMV (fun mem' => HR mem' ∧ (SKR mem mem' 4 0 rs n tl tc ta S)) kd ln sz) := by
  refine MT_of hG (by decide +kernel) (Nat.le_of_ble_eq_true rfl) (fun z hF hr hn => ?_)
  have hb1 := hsb.1
  have hb2 := hsb.2
  have h9 := hst.1
  have hrk := congrFun hrs
  have htr0 : TRC mem u tl tc ta := by rw [hu]; exact htr
  refine jblk hF [(.iload_n 2, 1), (.istore_n 3, 1)] (by decide +kernel) (pc' := 2) (lo' := [(3, (0, n)), (0, (2, 14)), (1, (0, u)), (2, (0, n))]) (st' := []) rfl ?_
  have L_2 : ∀ (fu_3 : Nat) (k : Int), (n ≤ k ∧ k ≤ mem 14 7) → (skipN rs n (mem 14 7 - n).toNat = skipN rs k (mem 14 7 - k).toNat) →  (mem 14 7 - k).toNat < fu_3 → J z g 4 0 0 (QM z g 0 0 (pMV (fun mem' => HR mem' ∧ (SKR mem mem' 4 0 rs n tl tc ta S)) kd ln sz)) 2 [(0, (2, 14)), (1, (0, u)), (2, (0, n)), (3, (0, k))] [] kd ln mem sz := by
    intro fu_3
    induction fu_3 with
    | zero => intro k _ _ hm; omega
    | succ fu_3 ih_1 =>
      intro k hk hsk hm
      refine jblk hF [(.iload_n 3, 1)] (by decide +kernel) (pc' := 3) (lo' := [(0, (2, 14)), (1, (0, u)), (2, (0, n)), (3, (0, k))]) (st' := [(0, k)]) rfl ?_
      refine jblk hF [(.aload_n 0, 1)] (by decide +kernel) (pc' := 4) (lo' := [(0, (2, 14)), (1, (0, u)), (2, (0, n)), (3, (0, k))]) (st' := [(2, 14), (0, k)]) rfl ?_
      refine jget hF 7 7 0 7 rfl (by decide) (by decide) rfl wd_227 (by decide +kernel) (by exact hK.k14) ?_
      refine jicmp_ge hF (off := 20) 27 (by decide +kernel) (by decide) (by omega) (by omega) (fun h_4 => ?_) (fun h_4 => ?_)
      · refine jblk hF [(.iload_n 3, 1), (.aload_n 0, 1)] (by decide +kernel) (pc' := 29) (lo' := [(0, (2, 14)), (1, (0, u)), (2, (0, n)), (3, (0, k))]) (st' := [(2, 14), (0, k)]) rfl ?_
        refine jget hF 7 7 0 7 rfl (by decide) (by decide) rfl wd_227 (by decide +kernel) (by exact hK.k14) ?_
        refine jicmp_lt hF (off := 9) 41 (by decide +kernel) (by decide) (by omega) (by omega) (fun h_5 => ?_) (fun h_5 => ?_)
        · exfalso; omega
        · refine jblk hF [(.aload_n 0, 1), (.iload_n 1, 1)] (by decide +kernel) (pc' := 37) (lo' := [(0, (2, 14)), (1, (0, u)), (2, (0, n)), (3, (0, k))]) (st' := [(0, u), (2, 14)]) rfl ?_
          refine jcallV hF (c_X6_keep hG hK hR u (by exact tl) (by exact tc) (by exact ta) (by exact S) (by omega) (by exact htr0) (by assumption) (by assumption)) MW_X6_keep 7 (by decide) (by exact hK.k14) wd_1065 wd_1067 wd_p33 (by decide +kernel) [] rfl rfl (by decide) (Nat.le_of_ble_eq_true rfl) (by decide) (kMV (fun m_6 h_7 => ?_))
          obtain ⟨hR_m_6, h_7⟩ := h_7
          have hkp := h_7
          refine jvret hF hr (by decide +kernel) ?_
          exact lMV ⟨hR_m_6, by (have hsT : skipN rs n (mem 14 7 - n).toNat = mem 14 7 := (by rw [hsk, show k = mem 14 7 by omega]; exact skip_n); unfold SKR; rw [seekPT (u := 4) (by decide) hsT, ← hu]; exact ⟨hkp.1, hkp.2.1.1, htr0.of hkp.2.1.2, hkp.2.2⟩)⟩
      · refine jblk hF [(.aload_n 0, 1)] (by decide +kernel) (pc' := 11) (lo' := [(0, (2, 14)), (1, (0, u)), (2, (0, n)), (3, (0, k))]) (st' := [(2, 14)]) rfl ?_
        refine jget hF 7 0 2 0 rfl (by decide) (by decide) rfl wd_217 (by decide +kernel) (by exact hK.k14) ?_
        rw [HR.r14_0 hR]
        refine jblk hF [(.iload_n 3, 1)] (by decide +kernel) (pc' := 15) (lo' := [(0, (2, 14)), (1, (0, u)), (2, (0, n)), (3, (0, k))]) (st' := [(0, k), (2, 15)]) rfl ?_
        refine jlald hF (by decide +kernel) (by exact hK.k15) (by omega) (by have := hK.l15; omega) ?_
        refine jlconst hF (n := 0) 0 rfl (by decide +kernel) ?_
        refine jlcmpW_ne hF (off := 9) 27 (by decide +kernel) (by decide +kernel) (by decide) (fun h_8 => ?_) (fun h_8 => ?_)
        · refine jblk hF [(.iload_n 3, 1), (.aload_n 0, 1)] (by decide +kernel) (pc' := 29) (lo' := [(0, (2, 14)), (1, (0, u)), (2, (0, n)), (3, (0, k))]) (st' := [(2, 14), (0, k)]) rfl ?_
          refine jget hF 7 7 0 7 rfl (by decide) (by decide) rfl wd_227 (by decide +kernel) (by exact hK.k14) ?_
          refine jicmp_lt hF (off := 9) 41 (by decide +kernel) (by decide) (by omega) (by omega) (fun h_9 => ?_) (fun h_9 => ?_)
          · refine jblk hF [(.iload_n 1, 1)] (by decide +kernel) (pc' := 42) (lo' := [(0, (2, 14)), (1, (0, u)), (2, (0, n)), (3, (0, k))]) (st' := [(0, u)]) rfl ?_
            have hske : skipN rs n (mem 14 7 - n).toNat = k := by rw [hsk]; exact skip_e (by omega) (by rw [← hrs]; assumption)
            have hbk := hbd k (by omega) (by omega)
            refine jblk hF [(.iconst 4, 1)] (by decide +kernel) (pc' := 43) (lo' := [(0, (2, 14)), (1, (0, u)), (2, (0, n)), (3, (0, k))]) (st' := [(0, 4), (0, u)]) rfl ?_
            refine jicmp_ge hF (off := 11) 54 (by decide +kernel) (by decide) (by omega) (by decide) (fun h_10 => ?_) (fun h_10 => ?_)
            · refine jvret hF hr (by decide +kernel) ?_
              exact lMV ⟨hR, by (unfold SKR; rw [seekPZ (u := 4) (by decide) (by rw [hske]; omega) (by omega)]; exact ⟨FSC.rf, rfl, htr, hst⟩)⟩
            · exfalso; omega
          · exfalso; omega
        · refine jblk hF [(.iinc 3 1, 3)] (by decide +kernel) (pc' := 24) (lo' := [(3, (0, k + 1)), (0, (2, 14)), (1, (0, u)), (2, (0, n))]) (st' := []) rfl ?_
          refine jgoto hF (off := (-22)) 2 (by decide +kernel) (by decide) ?_
          refine jsub [1, 2, 3, 0] rfl ?_
          refine ih_1 (k + 1) ?_ ?_ ?_
          · omega
          · (rw [hsk]; exact skip_s (by omega) (by rw [← hrs]; assumption))
          · omega
  refine jsub [1, 2, 3, 0] rfl ?_
  refine L_2 _ n ?_ ?_ (Nat.lt_succ_self _)
  · omega
  · rfl
set_option maxHeartbeats 4000000 in
set_option maxRecDepth 100000 in
theorem c_bl3 {l : Launch} {g : GP} (hG : GH g) {kd : Int → Nat} {ln : Int → Int} {mem : Int → Int → Int} {sz : Nat} (hK : HK kd ln) (hR : HR mem) (u k : Int) (rs : Int → Int) (tl : Int → Int) (tc : Int → Int) (ta : Int → Int) (S : ST) (hu : u = 3) (hni : 0 ≤ k ∧ k < mem 14 7) (hN : mem 14 7 ≤ 40) (ho : 0 ≤ mem 14 8 ∧ mem 14 8 ≤ 4) (hrs : mem 15 = rs) (htr : TRC mem 3 tl tc ta) (hst : SKP mem S) (hsb : SBP S) (hbd : BRS (mem 14 7) k 5324000000000 rs) : MT l g yX6_blame cX6_blame 8 none 2 0 0 [(2, 14), (0, u), (0, k)] kd ln mem sz (pMV (fun mem' => HR mem' ∧ (FSC mem mem' ∧ mem' 15 = mem 15 ∧ TRC mem' 3 tl tc ta ∧ SKP mem' (foldC (fun c => seekP (mem 14 7) (mem 14 8) 0 (markJ (mem 14 7) rs k (tmC (mem 14 8) c) (-(rs k)) (tmC (mem 14 8) c + 1)) (k + 1) (upI tl 3 k) (upI tc 3 (coC (mem 14 8) c)) (upI ta 3 (rs k))) (mem 14 8 + 1).toNat S))) kd ln sz) := by
  refine MT_of hG (by decide +kernel) (Nat.le_of_ble_eq_true rfl) (fun z hF hr hn => ?_)
  have hb1 := hsb.1
  have hb2 := hsb.2
  have h9 := hst.1
  have hrk := congrFun hrs
  have htr0 : TRC mem u tl tc ta := by rw [hu]; exact htr
  have hbk := hbd k (by omega) (by omega)
  obtain ⟨FF, hFF⟩ : ∃ FF : Int → ST → ST, FF = (fun c => seekP (mem 14 7) (mem 14 8) 0 (markJ (mem 14 7) rs k (tmC (mem 14 8) c) (-(rs k)) (tmC (mem 14 8) c + 1)) (k + 1) (upI tl 3 k) (upI tc 3 (coC (mem 14 8) c)) (upI ta 3 (rs k))) := ⟨_, rfl⟩
  have hFFa := fun (c9 : Int) (S9 : ST) => congrFun (congrFun hFF c9) S9
  have hSBF := fun (rs : Int → Int) (i : Int) (tl tc ta : Int → Int) (S : ST) (h : SBP S) => seekP_bd (N := mem 14 7) (o := mem 14 8) 0 (by decide) rs i tl tc ta S h
  have hrk0 : mem 15 k = rs k := hrk k
  refine jblk hF [(.aload_n 0, 1)] (by decide +kernel) (pc' := 1) (lo' := [(0, (2, 14)), (1, (0, u)), (2, (0, k))]) (st' := [(2, 14)]) rfl ?_
  refine jget hF 7 0 2 0 rfl (by decide) (by decide) rfl wd_217 (by decide +kernel) (by exact hK.k14) ?_
  rw [HR.r14_0 hR]
  refine jblk hF [(.iload_n 2, 1)] (by decide +kernel) (pc' := 5) (lo' := [(0, (2, 14)), (1, (0, u)), (2, (0, k))]) (st' := [(0, k), (2, 15)]) rfl ?_
  refine jlald hF (by decide +kernel) (by exact hK.k15) (by omega) (by have := hK.l15; omega) ?_
  refine jblk hF [(.lstore_n 3, 1), (.aload_n 0, 1)] (by decide +kernel) (pc' := 8) (lo' := [(3, (1, mem 15 k)), (0, (2, 14)), (1, (0, u)), (2, (0, k))]) (st' := [(2, 14)]) rfl ?_
  refine jget hF 7 1 2 1 rfl (by decide) (by decide) rfl wd_218 (by decide +kernel) (by exact hK.k14) ?_
  rw [HR.r14_1 hR]
  refine jblk hF [(.iload_n 1, 1), (.iload_n 2, 1)] (by decide +kernel) (pc' := 13) (lo' := [(3, (1, mem 15 k)), (0, (2, 14)), (1, (0, u)), (2, (0, k))]) (st' := [(0, k), (0, u), (2, 16)]) rfl ?_
  refine jiast hF (by decide +kernel) (by decide) (by exact hK.k16) (by omega) (by have := hK.l16; omega) ?_
  refine jblk hF [(.aload_n 0, 1)] (by decide +kernel) (pc' := 15) (lo' := [(3, (1, mem 15 k)), (0, (2, 14)), (1, (0, u)), (2, (0, k))]) (st' := [(2, 14)]) rfl ?_
  refine jget hF 7 3 2 3 rfl (by decide) (by decide) rfl wd_220 (by decide +kernel) (by exact hK.k14) ?_
  rw [HR.r14_3 (HR.s hR (by omega))]
  refine jblk hF [(.iload_n 1, 1), (.lload_n 3, 1)] (by decide +kernel) (pc' := 20) (lo' := [(3, (1, mem 15 k)), (0, (2, 14)), (1, (0, u)), (2, (0, k))]) (st' := [(1, mem 15 k), (0, u), (2, 18)]) rfl ?_
  refine jlast hF (by decide +kernel) (by decide) (by exact hK.k18) (by omega) (by have := hK.l18; omega) ?_
  refine jblk hF [(.iconst 0, 1), (.istore 5, 2)] (by decide +kernel) (pc' := 24) (lo' := [(5, (0, 0)), (3, (1, mem 15 k)), (0, (2, 14)), (1, (0, u)), (2, (0, k))]) (st' := []) rfl ?_
  have L_2 : ∀ (fu_3 : Nat) (c : Int) (m2 : Int → Int → Int), (HR m2) → (0 ≤ c ∧ c ≤ mem 14 8 + 1) → (FSC mem m2) → (m2 15 = rs) → (TRC m2 3 tl tc ta) → (m2 16 3 = k ∧ m2 18 3 = rs k) → (SKP m2 (foldC FF c.toNat S)) → (SBP (foldC FF c.toNat S)) →  (mem 14 8 + 1 - c).toNat < fu_3 → J z g 8 0 0 (QM z g 0 0 (pMV (fun mem' => HR mem' ∧ (FSC mem mem' ∧ mem' 15 = mem 15 ∧ TRC mem' 3 tl tc ta ∧ SKP mem' (foldC (fun c => seekP (mem 14 7) (mem 14 8) 0 (markJ (mem 14 7) rs k (tmC (mem 14 8) c) (-(rs k)) (tmC (mem 14 8) c + 1)) (k + 1) (upI tl 3 k) (upI tc 3 (coC (mem 14 8) c)) (upI ta 3 (rs k))) (mem 14 8 + 1).toNat S))) kd ln sz)) 24 [(0, (2, 14)), (1, (0, u)), (2, (0, k)), (3, (1, mem 15 k)), (5, (0, c))] [] kd ln m2 sz := by
    intro fu_3
    induction fu_3 with
    | zero => intro c m2 _ _ _ _ _ _ _ _ hm; omega
    | succ fu_3 ih_1 =>
      intro c m2 hR_m2 hc hfs2 hz15 htr2 h16 hst2 hsb2 hm2
      have f7 : m2 14 7 = mem 14 7 := hfs2 14 7 (by decide) (by decide)
      have f8 : m2 14 8 = mem 14 8 := hfs2 14 8 (by decide) (by decide)
      have hu5 : 0 ≤ u ∧ u < 4 := by omega
      refine jblk hF [(.iload 5, 2), (.aload_n 0, 1)] (by decide +kernel) (pc' := 27) (lo' := [(0, (2, 14)), (1, (0, u)), (2, (0, k)), (3, (1, mem 15 k)), (5, (0, c))]) (st' := [(2, 14), (0, c)]) rfl ?_
      refine jget hF 7 8 0 8 rfl (by decide) (by decide) rfl wd_228 (by decide +kernel) (by exact hK.k14) ?_
      refine jicmp_gt hF (off := 93) 123 (by decide +kernel) (by decide) (by omega) (by omega) (fun h_4 => ?_) (fun h_4 => ?_)
      · refine jvret hF hr (by decide +kernel) ?_
        exact lMV ⟨hR_m2, by (rw [← hFF, show (mem 14 8 + 1).toNat = c.toNat by omega]; exact ⟨hfs2, hz15.trans hrs.symm, htr2, hst2⟩)⟩
      · refine jblk hF [(.iload 5, 2), (.aload_n 0, 1)] (by decide +kernel) (pc' := 36) (lo' := [(0, (2, 14)), (1, (0, u)), (2, (0, k)), (3, (1, mem 15 k)), (5, (0, c))]) (st' := [(2, 14), (0, c)]) rfl ?_
        refine jget hF 7 8 0 8 rfl (by decide) (by decide) rfl wd_228 (by decide +kernel) (by exact hK.k14) ?_
        refine jicmp_ne hF (off := 7) 46 (by decide +kernel) (by decide) (by omega) (by omega) (fun h_5 => ?_) (fun h_5 => ?_)
        · refine jblk hF [(.iconst 0, 1), (.istore 6, 2), (.aload_n 0, 1)] (by decide +kernel) (pc' := 50) (lo' := [(6, (0, 0)), (0, (2, 14)), (1, (0, u)), (2, (0, k)), (3, (1, mem 15 k)), (5, (0, c))]) (st' := [(2, 14)]) rfl ?_
          refine jget hF 7 2 2 2 rfl (by decide) (by decide) rfl wd_219 (by decide +kernel) (by exact hK.k14) ?_
          rw [HR.r14_2 hR_m2]
          refine jblk hF [(.iload_n 1, 1), (.iload 6, 2)] (by decide +kernel) (pc' := 56) (lo' := [(6, (0, 0)), (0, (2, 14)), (1, (0, u)), (2, (0, k)), (3, (1, mem 15 k)), (5, (0, c))]) (st' := [(0, 0), (0, u), (2, 17)]) rfl ?_
          refine jif_eq hF (off := 8) 64 (by decide +kernel) (by decide) (by decide) (fun _ => ?_) (fun h => absurd h (by decide))
          refine jblk hF [(.iload 5, 2)] (by decide +kernel) (pc' := 66) (lo' := [(6, (0, 0)), (0, (2, 14)), (1, (0, u)), (2, (0, k)), (3, (1, mem 15 k)), (5, (0, c))]) (st' := [(0, c), (0, u), (2, 17)]) rfl ?_
          have hCo : c = coC (mem 14 8) c := by unfold coC; first | exact (if_pos (by omega)).symm | exact (if_neg (by omega)).symm
          refine jiast hF (by decide +kernel) (by decide) (by exact hK.k17) (by omega) (by have := hK.l17; omega) ?_
          refine jblk hF [(.iload 6, 2)] (by decide +kernel) (pc' := 69) (lo' := [(6, (0, 0)), (0, (2, 14)), (1, (0, u)), (2, (0, k)), (3, (1, mem 15 k)), (5, (0, c))]) (st' := [(0, 0)]) rfl ?_
          refine jif_eq hF (off := 12) 81 (by decide +kernel) (by decide) (by decide) (fun _ => ?_) (fun h => absurd h (by decide))
          refine jblk hF [(.aload_n 0, 1)] (by decide +kernel) (pc' := 82) (lo' := [(6, (0, 0)), (0, (2, 14)), (1, (0, u)), (2, (0, k)), (3, (1, mem 15 k)), (5, (0, c))]) (st' := [(2, 14)]) rfl ?_
          refine jget hF 7 8 0 8 rfl (by decide) (by decide) rfl wd_228 (by decide +kernel) (by exact hK.k14) ?_
          rw [show (set2 m2 17 u c) 14 8 = m2 14 8 from (s2_a (by decide))]
          refine jblk hF [(.iload 5, 2), (.isub, 1), (.istore 7, 2)] (by decide +kernel) (pc' := 90) (lo' := [(7, (0, (m2 14 8) - c)), (6, (0, 0)), (0, (2, 14)), (1, (0, u)), (2, (0, k)), (3, (1, mem 15 k)), (5, (0, c))]) (st' := []) rfl ?_
          have hT : ((m2 14 8) - c) = tmC (mem 14 8) c := by unfold tmC; first | (rw [if_pos (by omega)]; omega) | (rw [if_neg (by omega)]; omega)
          have hT5 : 0 ≤ tmC (mem 14 8) c ∧ tmC (mem 14 8) c ≤ 5 := by omega
          have g7b : (set2 m2 17 u c) 14 7 = mem 14 7 := (s2_a (by decide)).trans f7
          have e15 : (set2 m2 17 u c) 15 = m2 15 := funext fun j => s2_a (by decide)
          refine jblk hF [(.aload_n 0, 1), (.iload_n 2, 1), (.iload 7, 2), (.lload_n 3, 1), (.lneg, 1)] (by decide +kernel) (pc' := 96) (lo' := [(7, (0, (m2 14 8) - c)), (6, (0, 0)), (0, (2, 14)), (1, (0, u)), (2, (0, k)), (3, (1, mem 15 k)), (5, (0, c))]) (st' := [(1, -(mem 15 k)), (0, (m2 14 8) - c), (0, k), (2, 14)]) rfl ?_
          refine jcallV hF (c_X6_addTo hG hK (HR.s hR_m2 (by omega)) k ((m2 14 8) - c) (-(mem 15 k)) (by omega) (by omega) (by omega)) MW_X6_addTo 7 (by decide) (by exact hK.k14) wd_1073 wd_1075 wd_p35 (by decide +kernel) [] rfl rfl (by decide) (Nat.le_of_ble_eq_true rfl) (by decide) (kMV (fun m_8 h_9 => ?_))
          obtain ⟨hR_m_8, h_9⟩ := h_9
          have hb9 := h_9.1
          have hx9 := h_9.2
          refine jblk hF [(.aload_n 0, 1), (.iload_n 1, 1), (.iconst 1, 1), (.iadd, 1), (.iload_n 2, 1), (.iconst 1, 1), (.iadd, 1)] (by decide +kernel) (pc' := 106) (lo' := [(7, (0, (m2 14 8) - c)), (6, (0, 0)), (0, (2, 14)), (1, (0, u)), (2, (0, k)), (3, (1, mem 15 k)), (5, (0, c))]) (st' := [(0, k + 1), (0, u + 1), (2, 14)]) rfl ?_
          have hfs9 : FSC mem m_8 := (hfs2.tr (FSC.s _ _ (by decide))).tr (FSC.of15 hb9)
          have g7 : m_8 14 7 = mem 14 7 := hfs9 14 7 (by decide) (by decide)
          have g8 : m_8 14 8 = mem 14 8 := hfs9 14 8 (by decide) (by decide)
          have hrs9 : m_8 15 = markJ (mem 14 7) rs k (tmC (mem 14 8) c) (-(rs k)) (tmC (mem 14 8) c + 1) := by
            funext x
            rw [hx9 x, hT, g7b, e15, hz15, hrk0]
          have htr9 : TRC m_8 4 (upI tl 3 k) (upI tc 3 (coC (mem 14 8) c)) (upI ta 3 (rs k)) := trc_up htr2 (fun j q1 => by rw [hb9 16 j (by decide), s2_a (by decide)]) (fun j q1 => by rw [hb9 17 j (by decide)]; exact s2_k (by omega)) (fun j q1 => by rw [hb9 18 j (by decide), s2_a (by decide)]) (by rw [hb9 16 _ (by decide), s2_a (by decide)]; exact h16.1) (by rw [hb9 17 _ (by decide), ← hCo, ← hu]; exact s2_s) (by rw [hb9 18 _ (by decide), s2_a (by decide)]; exact h16.2)
          have hst9 : SKP m_8 (foldC FF c.toNat S) := hst2.of (fun a j q1 q2 q3 q4 => by rw [hb9 a j q1, s2_a q3])
          refine jcallV hF (c_sk4 hG hK hR_m_8 (u + 1) (k + 1) (by exact (markJ (mem 14 7) rs k (tmC (mem 14 8) c) (-(rs k)) (tmC (mem 14 8) c + 1))) (by exact (upI tl 3 k)) (by exact (upI tc 3 (coC (mem 14 8) c))) (by exact (upI ta 3 (rs k))) (by exact (foldC FF c.toNat S)) (by omega) (by rw [g7]; omega) (by rw [g7]; omega) (by rw [g8]; omega) (by exact hrs9) (by exact htr9) (by exact hst9) (by exact hsb2) (by rw [g7]; exact hbd.mark ⟨by omega, by omega⟩ hT5 (by decide))) MW_X6_seek 7 (by decide) (by exact hK.k14) wd_1061 wd_1063 wd_p32 (by decide +kernel) [] rfl rfl (by decide) (Nat.le_of_ble_eq_true rfl) (by decide) (kMV (fun m_10 h_11 => ?_))
          obtain ⟨hR_m_10, h_11⟩ := h_11
          obtain ⟨hfs8, hz8, htr8, hst8⟩ := h_11
          rw [g7, g8] at hst8
          have i7 : m_10 14 7 = mem 14 7 := (hfs9.tr hfs8) 14 7 (by decide) (by decide)
          refine jblk hF [(.aload_n 0, 1), (.iload_n 2, 1), (.iload 7, 2), (.lload_n 3, 1)] (by decide +kernel) (pc' := 114) (lo' := [(7, (0, (m2 14 8) - c)), (6, (0, 0)), (0, (2, 14)), (1, (0, u)), (2, (0, k)), (3, (1, mem 15 k)), (5, (0, c))]) (st' := [(1, mem 15 k), (0, (m2 14 8) - c), (0, k), (2, 14)]) rfl ?_
          refine jcallV hF (c_X6_addTo hG hK hR_m_10 k ((m2 14 8) - c) (mem 15 k) (by omega) (by omega) (by omega)) MW_X6_addTo 7 (by decide) (by exact hK.k14) wd_1073 wd_1075 wd_p35 (by decide +kernel) [] rfl rfl (by decide) (Nat.le_of_ble_eq_true rfl) (by decide) (kMV (fun m_12 h_13 => ?_))
          obtain ⟨hR_m_12, h_13⟩ := h_13
          have hfs3 : FSC mem m_12 := (hfs9.tr hfs8).tr (FSC.of15 h_13.1)
          have hz3 : m_12 15 = rs := by
            funext x
            rw [h_13.2 x, hT, i7, hz8, hrs9, hrk0]
            exact markJ_back x
          have htr3 := trc_dn (u := 3) (m := m_12) (htr8.of ⟨funext fun j => h_13.1 16 j (by decide), funext fun j => h_13.1 17 j (by decide), funext fun j => h_13.1 18 j (by decide)⟩) (by decide)
          have hst3 : SKP m_12 (FF c (foldC FF c.toNat S)) := by rw [hFFa]; exact hst8.of (fun a j q1 _ _ _ => h_13.1 a j q1)
          refine jblk hF [(.iinc 5 1, 3)] (by decide +kernel) (pc' := 120) (lo' := [(5, (0, c + 1)), (7, (0, (m2 14 8) - c)), (6, (0, 0)), (0, (2, 14)), (1, (0, u)), (2, (0, k)), (3, (1, mem 15 k))]) (st' := []) rfl ?_
          refine jgoto hF (off := (-96)) 24 (by decide +kernel) (by decide) ?_
          refine jsub [3, 4, 5, 6, 0] rfl ?_
          refine ih_1 (c + 1) m_12 ?_ ?_ ?_ ?_ ?_ ?_ ?_ ?_ ?_
          · exact hR_m_12
          · omega
          · exact hfs3
          · exact hz3
          · exact htr3.1
          · exact ⟨htr3.2.1, htr3.2.2⟩
          · (rw [foldC_s (by omega)]; exact hst3)
          · (rw [foldC_s (by omega), hFFa]; exact hSBF _ _ _ _ _ _ hsb2)
          · omega
        · refine jblk hF [(.iconst 1, 1)] (by decide +kernel) (pc' := 43) (lo' := [(0, (2, 14)), (1, (0, u)), (2, (0, k)), (3, (1, mem 15 k)), (5, (0, c))]) (st' := [(0, 1)]) rfl ?_
          refine jgoto hF (off := 4) 47 (by decide +kernel) (by decide) ?_
          refine jblk hF [(.istore 6, 2), (.aload_n 0, 1)] (by decide +kernel) (pc' := 50) (lo' := [(6, (0, 1)), (0, (2, 14)), (1, (0, u)), (2, (0, k)), (3, (1, mem 15 k)), (5, (0, c))]) (st' := [(2, 14)]) rfl ?_
          refine jget hF 7 2 2 2 rfl (by decide) (by decide) rfl wd_219 (by decide +kernel) (by exact hK.k14) ?_
          rw [HR.r14_2 hR_m2]
          refine jblk hF [(.iload_n 1, 1), (.iload 6, 2)] (by decide +kernel) (pc' := 56) (lo' := [(6, (0, 1)), (0, (2, 14)), (1, (0, u)), (2, (0, k)), (3, (1, mem 15 k)), (5, (0, c))]) (st' := [(0, 1), (0, u), (2, 17)]) rfl ?_
          refine jif_eq hF (off := 8) 64 (by decide +kernel) (by decide) (by decide) (fun h => absurd h (by decide)) (fun _ => ?_)
          refine jblk hF [(.bipush 9, 2)] (by decide +kernel) (pc' := 61) (lo' := [(6, (0, 1)), (0, (2, 14)), (1, (0, u)), (2, (0, k)), (3, (1, mem 15 k)), (5, (0, c))]) (st' := [(0, 9), (0, u), (2, 17)]) rfl ?_
          refine jgoto hF (off := 5) 66 (by decide +kernel) (by decide) ?_
          have hCo : 9 = coC (mem 14 8) c := by unfold coC; first | exact (if_pos (by omega)).symm | exact (if_neg (by omega)).symm
          refine jiast hF (by decide +kernel) (by decide) (by exact hK.k17) (by omega) (by have := hK.l17; omega) ?_
          refine jblk hF [(.iload 6, 2)] (by decide +kernel) (pc' := 69) (lo' := [(6, (0, 1)), (0, (2, 14)), (1, (0, u)), (2, (0, k)), (3, (1, mem 15 k)), (5, (0, c))]) (st' := [(0, 1)]) rfl ?_
          refine jif_eq hF (off := 12) 81 (by decide +kernel) (by decide) (by decide) (fun h => absurd h (by decide)) (fun _ => ?_)
          refine jblk hF [(.aload_n 0, 1)] (by decide +kernel) (pc' := 73) (lo' := [(6, (0, 1)), (0, (2, 14)), (1, (0, u)), (2, (0, k)), (3, (1, mem 15 k)), (5, (0, c))]) (st' := [(2, 14)]) rfl ?_
          refine jget hF 7 8 0 8 rfl (by decide) (by decide) rfl wd_228 (by decide +kernel) (by exact hK.k14) ?_
          rw [show (set2 m2 17 u 9) 14 8 = m2 14 8 from (s2_a (by decide))]
          refine jblk hF [(.iconst 1, 1), (.iadd, 1)] (by decide +kernel) (pc' := 78) (lo' := [(6, (0, 1)), (0, (2, 14)), (1, (0, u)), (2, (0, k)), (3, (1, mem 15 k)), (5, (0, c))]) (st' := [(0, (m2 14 8) + 1)]) rfl ?_
          refine jgoto hF (off := 10) 88 (by decide +kernel) (by decide) ?_
          refine jblk hF [(.istore 7, 2)] (by decide +kernel) (pc' := 90) (lo' := [(7, (0, (m2 14 8) + 1)), (6, (0, 1)), (0, (2, 14)), (1, (0, u)), (2, (0, k)), (3, (1, mem 15 k)), (5, (0, c))]) (st' := []) rfl ?_
          have hT : ((m2 14 8) + 1) = tmC (mem 14 8) c := by unfold tmC; first | (rw [if_pos (by omega)]; omega) | (rw [if_neg (by omega)]; omega)
          have hT5 : 0 ≤ tmC (mem 14 8) c ∧ tmC (mem 14 8) c ≤ 5 := by omega
          have g7b : (set2 m2 17 u 9) 14 7 = mem 14 7 := (s2_a (by decide)).trans f7
          have e15 : (set2 m2 17 u 9) 15 = m2 15 := funext fun j => s2_a (by decide)
          refine jblk hF [(.aload_n 0, 1), (.iload_n 2, 1), (.iload 7, 2), (.lload_n 3, 1), (.lneg, 1)] (by decide +kernel) (pc' := 96) (lo' := [(7, (0, (m2 14 8) + 1)), (6, (0, 1)), (0, (2, 14)), (1, (0, u)), (2, (0, k)), (3, (1, mem 15 k)), (5, (0, c))]) (st' := [(1, -(mem 15 k)), (0, (m2 14 8) + 1), (0, k), (2, 14)]) rfl ?_
          refine jcallV hF (c_X6_addTo hG hK (HR.s hR_m2 (by omega)) k ((m2 14 8) + 1) (-(mem 15 k)) (by omega) (by omega) (by omega)) MW_X6_addTo 7 (by decide) (by exact hK.k14) wd_1073 wd_1075 wd_p35 (by decide +kernel) [] rfl rfl (by decide) (Nat.le_of_ble_eq_true rfl) (by decide) (kMV (fun m_16 h_17 => ?_))
          obtain ⟨hR_m_16, h_17⟩ := h_17
          have hb9 := h_17.1
          have hx9 := h_17.2
          refine jblk hF [(.aload_n 0, 1), (.iload_n 1, 1), (.iconst 1, 1), (.iadd, 1), (.iload_n 2, 1), (.iconst 1, 1), (.iadd, 1)] (by decide +kernel) (pc' := 106) (lo' := [(7, (0, (m2 14 8) + 1)), (6, (0, 1)), (0, (2, 14)), (1, (0, u)), (2, (0, k)), (3, (1, mem 15 k)), (5, (0, c))]) (st' := [(0, k + 1), (0, u + 1), (2, 14)]) rfl ?_
          have hfs9 : FSC mem m_16 := (hfs2.tr (FSC.s _ _ (by decide))).tr (FSC.of15 hb9)
          have g7 : m_16 14 7 = mem 14 7 := hfs9 14 7 (by decide) (by decide)
          have g8 : m_16 14 8 = mem 14 8 := hfs9 14 8 (by decide) (by decide)
          have hrs9 : m_16 15 = markJ (mem 14 7) rs k (tmC (mem 14 8) c) (-(rs k)) (tmC (mem 14 8) c + 1) := by
            funext x
            rw [hx9 x, hT, g7b, e15, hz15, hrk0]
          have htr9 : TRC m_16 4 (upI tl 3 k) (upI tc 3 (coC (mem 14 8) c)) (upI ta 3 (rs k)) := trc_up htr2 (fun j q1 => by rw [hb9 16 j (by decide), s2_a (by decide)]) (fun j q1 => by rw [hb9 17 j (by decide)]; exact s2_k (by omega)) (fun j q1 => by rw [hb9 18 j (by decide), s2_a (by decide)]) (by rw [hb9 16 _ (by decide), s2_a (by decide)]; exact h16.1) (by rw [hb9 17 _ (by decide), ← hCo, ← hu]; exact s2_s) (by rw [hb9 18 _ (by decide), s2_a (by decide)]; exact h16.2)
          have hst9 : SKP m_16 (foldC FF c.toNat S) := hst2.of (fun a j q1 q2 q3 q4 => by rw [hb9 a j q1, s2_a q3])
          refine jcallV hF (c_sk4 hG hK hR_m_16 (u + 1) (k + 1) (by exact (markJ (mem 14 7) rs k (tmC (mem 14 8) c) (-(rs k)) (tmC (mem 14 8) c + 1))) (by exact (upI tl 3 k)) (by exact (upI tc 3 (coC (mem 14 8) c))) (by exact (upI ta 3 (rs k))) (by exact (foldC FF c.toNat S)) (by omega) (by rw [g7]; omega) (by rw [g7]; omega) (by rw [g8]; omega) (by exact hrs9) (by exact htr9) (by exact hst9) (by exact hsb2) (by rw [g7]; exact hbd.mark ⟨by omega, by omega⟩ hT5 (by decide))) MW_X6_seek 7 (by decide) (by exact hK.k14) wd_1061 wd_1063 wd_p32 (by decide +kernel) [] rfl rfl (by decide) (Nat.le_of_ble_eq_true rfl) (by decide) (kMV (fun m_18 h_19 => ?_))
          obtain ⟨hR_m_18, h_19⟩ := h_19
          obtain ⟨hfs8, hz8, htr8, hst8⟩ := h_19
          rw [g7, g8] at hst8
          have i7 : m_18 14 7 = mem 14 7 := (hfs9.tr hfs8) 14 7 (by decide) (by decide)
          refine jblk hF [(.aload_n 0, 1), (.iload_n 2, 1), (.iload 7, 2), (.lload_n 3, 1)] (by decide +kernel) (pc' := 114) (lo' := [(7, (0, (m2 14 8) + 1)), (6, (0, 1)), (0, (2, 14)), (1, (0, u)), (2, (0, k)), (3, (1, mem 15 k)), (5, (0, c))]) (st' := [(1, mem 15 k), (0, (m2 14 8) + 1), (0, k), (2, 14)]) rfl ?_
          refine jcallV hF (c_X6_addTo hG hK hR_m_18 k ((m2 14 8) + 1) (mem 15 k) (by omega) (by omega) (by omega)) MW_X6_addTo 7 (by decide) (by exact hK.k14) wd_1073 wd_1075 wd_p35 (by decide +kernel) [] rfl rfl (by decide) (Nat.le_of_ble_eq_true rfl) (by decide) (kMV (fun m_20 h_21 => ?_))
          obtain ⟨hR_m_20, h_21⟩ := h_21
          have hfs3 : FSC mem m_20 := (hfs9.tr hfs8).tr (FSC.of15 h_21.1)
          have hz3 : m_20 15 = rs := by
            funext x
            rw [h_21.2 x, hT, i7, hz8, hrs9, hrk0]
            exact markJ_back x
          have htr3 := trc_dn (u := 3) (m := m_20) (htr8.of ⟨funext fun j => h_21.1 16 j (by decide), funext fun j => h_21.1 17 j (by decide), funext fun j => h_21.1 18 j (by decide)⟩) (by decide)
          have hst3 : SKP m_20 (FF c (foldC FF c.toNat S)) := by rw [hFFa]; exact hst8.of (fun a j q1 _ _ _ => h_21.1 a j q1)
          refine jblk hF [(.iinc 5 1, 3)] (by decide +kernel) (pc' := 120) (lo' := [(5, (0, c + 1)), (7, (0, (m2 14 8) + 1)), (6, (0, 1)), (0, (2, 14)), (1, (0, u)), (2, (0, k)), (3, (1, mem 15 k))]) (st' := []) rfl ?_
          refine jgoto hF (off := (-96)) 24 (by decide +kernel) (by decide) ?_
          refine jsub [3, 4, 5, 6, 0] rfl ?_
          refine ih_1 (c + 1) m_20 ?_ ?_ ?_ ?_ ?_ ?_ ?_ ?_ ?_
          · exact hR_m_20
          · omega
          · exact hfs3
          · exact hz3
          · exact htr3.1
          · exact ⟨htr3.2.1, htr3.2.2⟩
          · (rw [foldC_s (by omega)]; exact hst3)
          · (rw [foldC_s (by omega), hFFa]; exact hSBF _ _ _ _ _ _ hsb2)
          · omega
  refine jsub [2, 3, 4, 1, 0] rfl ?_
  refine L_2 _ 0 (set2 (set2 mem 16 u k) 18 u (mem 15 k)) ?_ ?_ ?_ ?_ ?_ ?_ ?_ ?_ (Nat.lt_succ_self _)
  · exact (HR.s (HR.s hR (by omega)) (by omega))
  · omega
  · exact (FSC.s _ _ (by decide)).tr (FSC.s _ _ (by decide))
  · exact hrs
  · (intro j h1 h2; have w := htr j h1 h2; refine ⟨?_, w.2.1, ?_⟩; (rw [s2_a (by decide), s2_k (by omega)]; exact w.1); (rw [s2_k (by omega), s2_a (by decide)]; exact w.2.2))
  · exact ⟨by rw [s2_a (by decide), ← hu, s2_s], by rw [← hu, s2_s, hrs]⟩
  · exact hst.of (fun a j q1 q2 q3 q4 => by rw [s2_a q4, s2_a q2])
  · exact hsb
set_option maxHeartbeats 4000000 in
set_option maxRecDepth 100000 in
theorem c_sk3 {l : Launch} {g : GP} (hG : GH g) {kd : Int → Nat} {ln : Int → Int} {mem : Int → Int → Int} {sz : Nat} (hK : HK kd ln) (hR : HR mem) (u n : Int) (rs : Int → Int) (tl : Int → Int) (tc : Int → Int) (ta : Int → Int) (S : ST) (hu : u = 3) (hni : 0 ≤ n ∧ n ≤ mem 14 7) (hN : mem 14 7 ≤ 40) (ho : 0 ≤ mem 14 8 ∧ mem 14 8 ≤ 4) (hrs : mem 15 = rs) (htr : TRC mem 3 tl tc ta) (hst : SKP mem S) (hsb : SBP S) (hbd : BRS (mem 14 7) n 5324000000000 rs) : MT l g yX6_seek cX6_seek 4 none 3 0 0 [(2, 14), (0, u), (0, n)] kd ln mem sz (pMV (fun mem' => HR mem' ∧ (SKR mem mem' 3 1 rs n tl tc ta S)) kd ln sz) := by
  refine MT_of hG (by decide +kernel) (Nat.le_of_ble_eq_true rfl) (fun z hF hr hn => ?_)
  have hb1 := hsb.1
  have hb2 := hsb.2
  have h9 := hst.1
  have hrk := congrFun hrs
  have htr0 : TRC mem u tl tc ta := by rw [hu]; exact htr
  refine jblk hF [(.iload_n 2, 1), (.istore_n 3, 1)] (by decide +kernel) (pc' := 2) (lo' := [(3, (0, n)), (0, (2, 14)), (1, (0, u)), (2, (0, n))]) (st' := []) rfl ?_
  have L_2 : ∀ (fu_3 : Nat) (k : Int), (n ≤ k ∧ k ≤ mem 14 7) → (skipN rs n (mem 14 7 - n).toNat = skipN rs k (mem 14 7 - k).toNat) →  (mem 14 7 - k).toNat < fu_3 → J z g 4 0 0 (QM z g 0 0 (pMV (fun mem' => HR mem' ∧ (SKR mem mem' 3 1 rs n tl tc ta S)) kd ln sz)) 2 [(0, (2, 14)), (1, (0, u)), (2, (0, n)), (3, (0, k))] [] kd ln mem sz := by
    intro fu_3
    induction fu_3 with
    | zero => intro k _ _ hm; omega
    | succ fu_3 ih_1 =>
      intro k hk hsk hm
      refine jblk hF [(.iload_n 3, 1)] (by decide +kernel) (pc' := 3) (lo' := [(0, (2, 14)), (1, (0, u)), (2, (0, n)), (3, (0, k))]) (st' := [(0, k)]) rfl ?_
      refine jblk hF [(.aload_n 0, 1)] (by decide +kernel) (pc' := 4) (lo' := [(0, (2, 14)), (1, (0, u)), (2, (0, n)), (3, (0, k))]) (st' := [(2, 14), (0, k)]) rfl ?_
      refine jget hF 7 7 0 7 rfl (by decide) (by decide) rfl wd_227 (by decide +kernel) (by exact hK.k14) ?_
      refine jicmp_ge hF (off := 20) 27 (by decide +kernel) (by decide) (by omega) (by omega) (fun h_4 => ?_) (fun h_4 => ?_)
      · refine jblk hF [(.iload_n 3, 1), (.aload_n 0, 1)] (by decide +kernel) (pc' := 29) (lo' := [(0, (2, 14)), (1, (0, u)), (2, (0, n)), (3, (0, k))]) (st' := [(2, 14), (0, k)]) rfl ?_
        refine jget hF 7 7 0 7 rfl (by decide) (by decide) rfl wd_227 (by decide +kernel) (by exact hK.k14) ?_
        refine jicmp_lt hF (off := 9) 41 (by decide +kernel) (by decide) (by omega) (by omega) (fun h_5 => ?_) (fun h_5 => ?_)
        · exfalso; omega
        · refine jblk hF [(.aload_n 0, 1), (.iload_n 1, 1)] (by decide +kernel) (pc' := 37) (lo' := [(0, (2, 14)), (1, (0, u)), (2, (0, n)), (3, (0, k))]) (st' := [(0, u), (2, 14)]) rfl ?_
          refine jcallV hF (c_X6_keep hG hK hR u (by exact tl) (by exact tc) (by exact ta) (by exact S) (by omega) (by exact htr0) (by assumption) (by assumption)) MW_X6_keep 7 (by decide) (by exact hK.k14) wd_1065 wd_1067 wd_p33 (by decide +kernel) [] rfl rfl (by decide) (Nat.le_of_ble_eq_true rfl) (by decide) (kMV (fun m_6 h_7 => ?_))
          obtain ⟨hR_m_6, h_7⟩ := h_7
          have hkp := h_7
          refine jvret hF hr (by decide +kernel) ?_
          exact lMV ⟨hR_m_6, by (have hsT : skipN rs n (mem 14 7 - n).toNat = mem 14 7 := (by rw [hsk, show k = mem 14 7 by omega]; exact skip_n); unfold SKR; rw [seekPT (u := 3) (by decide) hsT, ← hu]; exact ⟨hkp.1, hkp.2.1.1, htr0.of hkp.2.1.2, hkp.2.2⟩)⟩
      · refine jblk hF [(.aload_n 0, 1)] (by decide +kernel) (pc' := 11) (lo' := [(0, (2, 14)), (1, (0, u)), (2, (0, n)), (3, (0, k))]) (st' := [(2, 14)]) rfl ?_
        refine jget hF 7 0 2 0 rfl (by decide) (by decide) rfl wd_217 (by decide +kernel) (by exact hK.k14) ?_
        rw [HR.r14_0 hR]
        refine jblk hF [(.iload_n 3, 1)] (by decide +kernel) (pc' := 15) (lo' := [(0, (2, 14)), (1, (0, u)), (2, (0, n)), (3, (0, k))]) (st' := [(0, k), (2, 15)]) rfl ?_
        refine jlald hF (by decide +kernel) (by exact hK.k15) (by omega) (by have := hK.l15; omega) ?_
        refine jlconst hF (n := 0) 0 rfl (by decide +kernel) ?_
        refine jlcmpW_ne hF (off := 9) 27 (by decide +kernel) (by decide +kernel) (by decide) (fun h_8 => ?_) (fun h_8 => ?_)
        · refine jblk hF [(.iload_n 3, 1), (.aload_n 0, 1)] (by decide +kernel) (pc' := 29) (lo' := [(0, (2, 14)), (1, (0, u)), (2, (0, n)), (3, (0, k))]) (st' := [(2, 14), (0, k)]) rfl ?_
          refine jget hF 7 7 0 7 rfl (by decide) (by decide) rfl wd_227 (by decide +kernel) (by exact hK.k14) ?_
          refine jicmp_lt hF (off := 9) 41 (by decide +kernel) (by decide) (by omega) (by omega) (fun h_9 => ?_) (fun h_9 => ?_)
          · refine jblk hF [(.iload_n 1, 1)] (by decide +kernel) (pc' := 42) (lo' := [(0, (2, 14)), (1, (0, u)), (2, (0, n)), (3, (0, k))]) (st' := [(0, u)]) rfl ?_
            have hske : skipN rs n (mem 14 7 - n).toNat = k := by rw [hsk]; exact skip_e (by omega) (by rw [← hrs]; assumption)
            have hbk := hbd k (by omega) (by omega)
            refine jblk hF [(.iconst 4, 1)] (by decide +kernel) (pc' := 43) (lo' := [(0, (2, 14)), (1, (0, u)), (2, (0, n)), (3, (0, k))]) (st' := [(0, 4), (0, u)]) rfl ?_
            refine jicmp_ge hF (off := 11) 54 (by decide +kernel) (by decide) (by omega) (by decide) (fun h_10 => ?_) (fun h_10 => ?_)
            · refine jvret hF hr (by decide +kernel) ?_
              exact lMV ⟨hR, by (unfold SKR; rw [seekPZ (u := 3) (by decide) (by rw [hske]; omega) (by omega)]; exact ⟨FSC.rf, rfl, htr, hst⟩)⟩
            · refine jblk hF [(.iload_n 1, 1), (.aload_n 0, 1)] (by decide +kernel) (pc' := 48) (lo' := [(0, (2, 14)), (1, (0, u)), (2, (0, n)), (3, (0, k))]) (st' := [(2, 14), (0, u)]) rfl ?_
              refine jget hF 7 9 0 9 rfl (by decide) (by decide) rfl wd_229 (by decide +kernel) (by exact hK.k14) ?_
              refine jicmp_lt hF (off := 4) 55 (by decide +kernel) (by decide) (by omega) (by omega) (fun h_11 => ?_) (fun h_11 => ?_)
              · refine jblk hF [(.aload_n 0, 1), (.iload_n 1, 1), (.iload_n 3, 1)] (by decide +kernel) (pc' := 58) (lo' := [(0, (2, 14)), (1, (0, u)), (2, (0, n)), (3, (0, k))]) (st' := [(0, k), (0, u), (2, 14)]) rfl ?_
                refine jcallV hF (c_bl3 hG hK hR u k (by exact rs) (by exact tl) (by exact tc) (by exact ta) (by exact S) (by omega) (by omega) (by omega) (by omega) (by exact hrs) (by exact htr) (by exact hst) (by exact hsb) (by exact hbd.le (by omega))) MW_X6_blame 7 (by decide) (by exact hK.k14) wd_1069 wd_1071 wd_p34 (by decide +kernel) [] rfl rfl (by decide) (Nat.le_of_ble_eq_true rfl) (by decide) (kMV (fun m_12 h_13 => ?_))
                obtain ⟨hR_m_12, h_13⟩ := h_13
                have hbl := h_13
                refine jvret hF hr (by decide +kernel) ?_
                exact lMV ⟨hR_m_12, by (unfold SKR; rw [show (1 : Nat) = 0 + 1 from rfl, seekPL (u := 3) (by decide) hske (by omega) (by omega)]; exact hbl)⟩
              · refine jvret hF hr (by decide +kernel) ?_
                exact lMV ⟨hR, by (unfold SKR; rw [seekPZ (u := 3) (by decide) (by rw [hske]; omega) (by omega)]; exact ⟨FSC.rf, rfl, htr, hst⟩)⟩
          · exfalso; omega
        · refine jblk hF [(.iinc 3 1, 3)] (by decide +kernel) (pc' := 24) (lo' := [(3, (0, k + 1)), (0, (2, 14)), (1, (0, u)), (2, (0, n))]) (st' := []) rfl ?_
          refine jgoto hF (off := (-22)) 2 (by decide +kernel) (by decide) ?_
          refine jsub [1, 2, 3, 0] rfl ?_
          refine ih_1 (k + 1) ?_ ?_ ?_
          · omega
          · (rw [hsk]; exact skip_s (by omega) (by rw [← hrs]; assumption))
          · omega
  refine jsub [1, 2, 3, 0] rfl ?_
  refine L_2 _ n ?_ ?_ (Nat.lt_succ_self _)
  · omega
  · rfl
set_option maxHeartbeats 4000000 in
set_option maxRecDepth 100000 in
theorem c_bl2 {l : Launch} {g : GP} (hG : GH g) {kd : Int → Nat} {ln : Int → Int} {mem : Int → Int → Int} {sz : Nat} (hK : HK kd ln) (hR : HR mem) (u k : Int) (rs : Int → Int) (tl : Int → Int) (tc : Int → Int) (ta : Int → Int) (S : ST) (hu : u = 2) (hni : 0 ≤ k ∧ k < mem 14 7) (hN : mem 14 7 ≤ 40) (ho : 0 ≤ mem 14 8 ∧ mem 14 8 ≤ 4) (hrs : mem 15 = rs) (htr : TRC mem 2 tl tc ta) (hst : SKP mem S) (hsb : SBP S) (hbd : BRS (mem 14 7) k 484000000000 rs) : MT l g yX6_blame cX6_blame 8 none 4 0 0 [(2, 14), (0, u), (0, k)] kd ln mem sz (pMV (fun mem' => HR mem' ∧ (FSC mem mem' ∧ mem' 15 = mem 15 ∧ TRC mem' 2 tl tc ta ∧ SKP mem' (foldC (fun c => seekP (mem 14 7) (mem 14 8) 1 (markJ (mem 14 7) rs k (tmC (mem 14 8) c) (-(rs k)) (tmC (mem 14 8) c + 1)) (k + 1) (upI tl 2 k) (upI tc 2 (coC (mem 14 8) c)) (upI ta 2 (rs k))) (mem 14 8 + 1).toNat S))) kd ln sz) := by
  refine MT_of hG (by decide +kernel) (Nat.le_of_ble_eq_true rfl) (fun z hF hr hn => ?_)
  have hb1 := hsb.1
  have hb2 := hsb.2
  have h9 := hst.1
  have hrk := congrFun hrs
  have htr0 : TRC mem u tl tc ta := by rw [hu]; exact htr
  have hbk := hbd k (by omega) (by omega)
  obtain ⟨FF, hFF⟩ : ∃ FF : Int → ST → ST, FF = (fun c => seekP (mem 14 7) (mem 14 8) 1 (markJ (mem 14 7) rs k (tmC (mem 14 8) c) (-(rs k)) (tmC (mem 14 8) c + 1)) (k + 1) (upI tl 2 k) (upI tc 2 (coC (mem 14 8) c)) (upI ta 2 (rs k))) := ⟨_, rfl⟩
  have hFFa := fun (c9 : Int) (S9 : ST) => congrFun (congrFun hFF c9) S9
  have hSBF := fun (rs : Int → Int) (i : Int) (tl tc ta : Int → Int) (S : ST) (h : SBP S) => seekP_bd (N := mem 14 7) (o := mem 14 8) 1 (by decide) rs i tl tc ta S h
  have hrk0 : mem 15 k = rs k := hrk k
  refine jblk hF [(.aload_n 0, 1)] (by decide +kernel) (pc' := 1) (lo' := [(0, (2, 14)), (1, (0, u)), (2, (0, k))]) (st' := [(2, 14)]) rfl ?_
  refine jget hF 7 0 2 0 rfl (by decide) (by decide) rfl wd_217 (by decide +kernel) (by exact hK.k14) ?_
  rw [HR.r14_0 hR]
  refine jblk hF [(.iload_n 2, 1)] (by decide +kernel) (pc' := 5) (lo' := [(0, (2, 14)), (1, (0, u)), (2, (0, k))]) (st' := [(0, k), (2, 15)]) rfl ?_
  refine jlald hF (by decide +kernel) (by exact hK.k15) (by omega) (by have := hK.l15; omega) ?_
  refine jblk hF [(.lstore_n 3, 1), (.aload_n 0, 1)] (by decide +kernel) (pc' := 8) (lo' := [(3, (1, mem 15 k)), (0, (2, 14)), (1, (0, u)), (2, (0, k))]) (st' := [(2, 14)]) rfl ?_
  refine jget hF 7 1 2 1 rfl (by decide) (by decide) rfl wd_218 (by decide +kernel) (by exact hK.k14) ?_
  rw [HR.r14_1 hR]
  refine jblk hF [(.iload_n 1, 1), (.iload_n 2, 1)] (by decide +kernel) (pc' := 13) (lo' := [(3, (1, mem 15 k)), (0, (2, 14)), (1, (0, u)), (2, (0, k))]) (st' := [(0, k), (0, u), (2, 16)]) rfl ?_
  refine jiast hF (by decide +kernel) (by decide) (by exact hK.k16) (by omega) (by have := hK.l16; omega) ?_
  refine jblk hF [(.aload_n 0, 1)] (by decide +kernel) (pc' := 15) (lo' := [(3, (1, mem 15 k)), (0, (2, 14)), (1, (0, u)), (2, (0, k))]) (st' := [(2, 14)]) rfl ?_
  refine jget hF 7 3 2 3 rfl (by decide) (by decide) rfl wd_220 (by decide +kernel) (by exact hK.k14) ?_
  rw [HR.r14_3 (HR.s hR (by omega))]
  refine jblk hF [(.iload_n 1, 1), (.lload_n 3, 1)] (by decide +kernel) (pc' := 20) (lo' := [(3, (1, mem 15 k)), (0, (2, 14)), (1, (0, u)), (2, (0, k))]) (st' := [(1, mem 15 k), (0, u), (2, 18)]) rfl ?_
  refine jlast hF (by decide +kernel) (by decide) (by exact hK.k18) (by omega) (by have := hK.l18; omega) ?_
  refine jblk hF [(.iconst 0, 1), (.istore 5, 2)] (by decide +kernel) (pc' := 24) (lo' := [(5, (0, 0)), (3, (1, mem 15 k)), (0, (2, 14)), (1, (0, u)), (2, (0, k))]) (st' := []) rfl ?_
  have L_2 : ∀ (fu_3 : Nat) (c : Int) (m2 : Int → Int → Int), (HR m2) → (0 ≤ c ∧ c ≤ mem 14 8 + 1) → (FSC mem m2) → (m2 15 = rs) → (TRC m2 2 tl tc ta) → (m2 16 2 = k ∧ m2 18 2 = rs k) → (SKP m2 (foldC FF c.toNat S)) → (SBP (foldC FF c.toNat S)) →  (mem 14 8 + 1 - c).toNat < fu_3 → J z g 8 0 0 (QM z g 0 0 (pMV (fun mem' => HR mem' ∧ (FSC mem mem' ∧ mem' 15 = mem 15 ∧ TRC mem' 2 tl tc ta ∧ SKP mem' (foldC (fun c => seekP (mem 14 7) (mem 14 8) 1 (markJ (mem 14 7) rs k (tmC (mem 14 8) c) (-(rs k)) (tmC (mem 14 8) c + 1)) (k + 1) (upI tl 2 k) (upI tc 2 (coC (mem 14 8) c)) (upI ta 2 (rs k))) (mem 14 8 + 1).toNat S))) kd ln sz)) 24 [(0, (2, 14)), (1, (0, u)), (2, (0, k)), (3, (1, mem 15 k)), (5, (0, c))] [] kd ln m2 sz := by
    intro fu_3
    induction fu_3 with
    | zero => intro c m2 _ _ _ _ _ _ _ _ hm; omega
    | succ fu_3 ih_1 =>
      intro c m2 hR_m2 hc hfs2 hz15 htr2 h16 hst2 hsb2 hm2
      have f7 : m2 14 7 = mem 14 7 := hfs2 14 7 (by decide) (by decide)
      have f8 : m2 14 8 = mem 14 8 := hfs2 14 8 (by decide) (by decide)
      have hu5 : 0 ≤ u ∧ u < 4 := by omega
      refine jblk hF [(.iload 5, 2), (.aload_n 0, 1)] (by decide +kernel) (pc' := 27) (lo' := [(0, (2, 14)), (1, (0, u)), (2, (0, k)), (3, (1, mem 15 k)), (5, (0, c))]) (st' := [(2, 14), (0, c)]) rfl ?_
      refine jget hF 7 8 0 8 rfl (by decide) (by decide) rfl wd_228 (by decide +kernel) (by exact hK.k14) ?_
      refine jicmp_gt hF (off := 93) 123 (by decide +kernel) (by decide) (by omega) (by omega) (fun h_4 => ?_) (fun h_4 => ?_)
      · refine jvret hF hr (by decide +kernel) ?_
        exact lMV ⟨hR_m2, by (rw [← hFF, show (mem 14 8 + 1).toNat = c.toNat by omega]; exact ⟨hfs2, hz15.trans hrs.symm, htr2, hst2⟩)⟩
      · refine jblk hF [(.iload 5, 2), (.aload_n 0, 1)] (by decide +kernel) (pc' := 36) (lo' := [(0, (2, 14)), (1, (0, u)), (2, (0, k)), (3, (1, mem 15 k)), (5, (0, c))]) (st' := [(2, 14), (0, c)]) rfl ?_
        refine jget hF 7 8 0 8 rfl (by decide) (by decide) rfl wd_228 (by decide +kernel) (by exact hK.k14) ?_
        refine jicmp_ne hF (off := 7) 46 (by decide +kernel) (by decide) (by omega) (by omega) (fun h_5 => ?_) (fun h_5 => ?_)
        · refine jblk hF [(.iconst 0, 1), (.istore 6, 2), (.aload_n 0, 1)] (by decide +kernel) (pc' := 50) (lo' := [(6, (0, 0)), (0, (2, 14)), (1, (0, u)), (2, (0, k)), (3, (1, mem 15 k)), (5, (0, c))]) (st' := [(2, 14)]) rfl ?_
          refine jget hF 7 2 2 2 rfl (by decide) (by decide) rfl wd_219 (by decide +kernel) (by exact hK.k14) ?_
          rw [HR.r14_2 hR_m2]
          refine jblk hF [(.iload_n 1, 1), (.iload 6, 2)] (by decide +kernel) (pc' := 56) (lo' := [(6, (0, 0)), (0, (2, 14)), (1, (0, u)), (2, (0, k)), (3, (1, mem 15 k)), (5, (0, c))]) (st' := [(0, 0), (0, u), (2, 17)]) rfl ?_
          refine jif_eq hF (off := 8) 64 (by decide +kernel) (by decide) (by decide) (fun _ => ?_) (fun h => absurd h (by decide))
          refine jblk hF [(.iload 5, 2)] (by decide +kernel) (pc' := 66) (lo' := [(6, (0, 0)), (0, (2, 14)), (1, (0, u)), (2, (0, k)), (3, (1, mem 15 k)), (5, (0, c))]) (st' := [(0, c), (0, u), (2, 17)]) rfl ?_
          have hCo : c = coC (mem 14 8) c := by unfold coC; first | exact (if_pos (by omega)).symm | exact (if_neg (by omega)).symm
          refine jiast hF (by decide +kernel) (by decide) (by exact hK.k17) (by omega) (by have := hK.l17; omega) ?_
          refine jblk hF [(.iload 6, 2)] (by decide +kernel) (pc' := 69) (lo' := [(6, (0, 0)), (0, (2, 14)), (1, (0, u)), (2, (0, k)), (3, (1, mem 15 k)), (5, (0, c))]) (st' := [(0, 0)]) rfl ?_
          refine jif_eq hF (off := 12) 81 (by decide +kernel) (by decide) (by decide) (fun _ => ?_) (fun h => absurd h (by decide))
          refine jblk hF [(.aload_n 0, 1)] (by decide +kernel) (pc' := 82) (lo' := [(6, (0, 0)), (0, (2, 14)), (1, (0, u)), (2, (0, k)), (3, (1, mem 15 k)), (5, (0, c))]) (st' := [(2, 14)]) rfl ?_
          refine jget hF 7 8 0 8 rfl (by decide) (by decide) rfl wd_228 (by decide +kernel) (by exact hK.k14) ?_
          rw [show (set2 m2 17 u c) 14 8 = m2 14 8 from (s2_a (by decide))]
          refine jblk hF [(.iload 5, 2), (.isub, 1), (.istore 7, 2)] (by decide +kernel) (pc' := 90) (lo' := [(7, (0, (m2 14 8) - c)), (6, (0, 0)), (0, (2, 14)), (1, (0, u)), (2, (0, k)), (3, (1, mem 15 k)), (5, (0, c))]) (st' := []) rfl ?_
          have hT : ((m2 14 8) - c) = tmC (mem 14 8) c := by unfold tmC; first | (rw [if_pos (by omega)]; omega) | (rw [if_neg (by omega)]; omega)
          have hT5 : 0 ≤ tmC (mem 14 8) c ∧ tmC (mem 14 8) c ≤ 5 := by omega
          have g7b : (set2 m2 17 u c) 14 7 = mem 14 7 := (s2_a (by decide)).trans f7
          have e15 : (set2 m2 17 u c) 15 = m2 15 := funext fun j => s2_a (by decide)
          refine jblk hF [(.aload_n 0, 1), (.iload_n 2, 1), (.iload 7, 2), (.lload_n 3, 1), (.lneg, 1)] (by decide +kernel) (pc' := 96) (lo' := [(7, (0, (m2 14 8) - c)), (6, (0, 0)), (0, (2, 14)), (1, (0, u)), (2, (0, k)), (3, (1, mem 15 k)), (5, (0, c))]) (st' := [(1, -(mem 15 k)), (0, (m2 14 8) - c), (0, k), (2, 14)]) rfl ?_
          refine jcallV hF (c_X6_addTo hG hK (HR.s hR_m2 (by omega)) k ((m2 14 8) - c) (-(mem 15 k)) (by omega) (by omega) (by omega)) MW_X6_addTo 7 (by decide) (by exact hK.k14) wd_1073 wd_1075 wd_p35 (by decide +kernel) [] rfl rfl (by decide) (Nat.le_of_ble_eq_true rfl) (by decide) (kMV (fun m_8 h_9 => ?_))
          obtain ⟨hR_m_8, h_9⟩ := h_9
          have hb9 := h_9.1
          have hx9 := h_9.2
          refine jblk hF [(.aload_n 0, 1), (.iload_n 1, 1), (.iconst 1, 1), (.iadd, 1), (.iload_n 2, 1), (.iconst 1, 1), (.iadd, 1)] (by decide +kernel) (pc' := 106) (lo' := [(7, (0, (m2 14 8) - c)), (6, (0, 0)), (0, (2, 14)), (1, (0, u)), (2, (0, k)), (3, (1, mem 15 k)), (5, (0, c))]) (st' := [(0, k + 1), (0, u + 1), (2, 14)]) rfl ?_
          have hfs9 : FSC mem m_8 := (hfs2.tr (FSC.s _ _ (by decide))).tr (FSC.of15 hb9)
          have g7 : m_8 14 7 = mem 14 7 := hfs9 14 7 (by decide) (by decide)
          have g8 : m_8 14 8 = mem 14 8 := hfs9 14 8 (by decide) (by decide)
          have hrs9 : m_8 15 = markJ (mem 14 7) rs k (tmC (mem 14 8) c) (-(rs k)) (tmC (mem 14 8) c + 1) := by
            funext x
            rw [hx9 x, hT, g7b, e15, hz15, hrk0]
          have htr9 : TRC m_8 3 (upI tl 2 k) (upI tc 2 (coC (mem 14 8) c)) (upI ta 2 (rs k)) := trc_up htr2 (fun j q1 => by rw [hb9 16 j (by decide), s2_a (by decide)]) (fun j q1 => by rw [hb9 17 j (by decide)]; exact s2_k (by omega)) (fun j q1 => by rw [hb9 18 j (by decide), s2_a (by decide)]) (by rw [hb9 16 _ (by decide), s2_a (by decide)]; exact h16.1) (by rw [hb9 17 _ (by decide), ← hCo, ← hu]; exact s2_s) (by rw [hb9 18 _ (by decide), s2_a (by decide)]; exact h16.2)
          have hst9 : SKP m_8 (foldC FF c.toNat S) := hst2.of (fun a j q1 q2 q3 q4 => by rw [hb9 a j q1, s2_a q3])
          refine jcallV hF (c_sk3 hG hK hR_m_8 (u + 1) (k + 1) (by exact (markJ (mem 14 7) rs k (tmC (mem 14 8) c) (-(rs k)) (tmC (mem 14 8) c + 1))) (by exact (upI tl 2 k)) (by exact (upI tc 2 (coC (mem 14 8) c))) (by exact (upI ta 2 (rs k))) (by exact (foldC FF c.toNat S)) (by omega) (by rw [g7]; omega) (by rw [g7]; omega) (by rw [g8]; omega) (by exact hrs9) (by exact htr9) (by exact hst9) (by exact hsb2) (by rw [g7]; exact hbd.mark ⟨by omega, by omega⟩ hT5 (by decide))) MW_X6_seek 7 (by decide) (by exact hK.k14) wd_1061 wd_1063 wd_p32 (by decide +kernel) [] rfl rfl (by decide) (Nat.le_of_ble_eq_true rfl) (by decide) (kMV (fun m_10 h_11 => ?_))
          obtain ⟨hR_m_10, h_11⟩ := h_11
          obtain ⟨hfs8, hz8, htr8, hst8⟩ := h_11
          rw [g7, g8] at hst8
          have i7 : m_10 14 7 = mem 14 7 := (hfs9.tr hfs8) 14 7 (by decide) (by decide)
          refine jblk hF [(.aload_n 0, 1), (.iload_n 2, 1), (.iload 7, 2), (.lload_n 3, 1)] (by decide +kernel) (pc' := 114) (lo' := [(7, (0, (m2 14 8) - c)), (6, (0, 0)), (0, (2, 14)), (1, (0, u)), (2, (0, k)), (3, (1, mem 15 k)), (5, (0, c))]) (st' := [(1, mem 15 k), (0, (m2 14 8) - c), (0, k), (2, 14)]) rfl ?_
          refine jcallV hF (c_X6_addTo hG hK hR_m_10 k ((m2 14 8) - c) (mem 15 k) (by omega) (by omega) (by omega)) MW_X6_addTo 7 (by decide) (by exact hK.k14) wd_1073 wd_1075 wd_p35 (by decide +kernel) [] rfl rfl (by decide) (Nat.le_of_ble_eq_true rfl) (by decide) (kMV (fun m_12 h_13 => ?_))
          obtain ⟨hR_m_12, h_13⟩ := h_13
          have hfs3 : FSC mem m_12 := (hfs9.tr hfs8).tr (FSC.of15 h_13.1)
          have hz3 : m_12 15 = rs := by
            funext x
            rw [h_13.2 x, hT, i7, hz8, hrs9, hrk0]
            exact markJ_back x
          have htr3 := trc_dn (u := 2) (m := m_12) (htr8.of ⟨funext fun j => h_13.1 16 j (by decide), funext fun j => h_13.1 17 j (by decide), funext fun j => h_13.1 18 j (by decide)⟩) (by decide)
          have hst3 : SKP m_12 (FF c (foldC FF c.toNat S)) := by rw [hFFa]; exact hst8.of (fun a j q1 _ _ _ => h_13.1 a j q1)
          refine jblk hF [(.iinc 5 1, 3)] (by decide +kernel) (pc' := 120) (lo' := [(5, (0, c + 1)), (7, (0, (m2 14 8) - c)), (6, (0, 0)), (0, (2, 14)), (1, (0, u)), (2, (0, k)), (3, (1, mem 15 k))]) (st' := []) rfl ?_
          refine jgoto hF (off := (-96)) 24 (by decide +kernel) (by decide) ?_
          refine jsub [3, 4, 5, 6, 0] rfl ?_
          refine ih_1 (c + 1) m_12 ?_ ?_ ?_ ?_ ?_ ?_ ?_ ?_ ?_
          · exact hR_m_12
          · omega
          · exact hfs3
          · exact hz3
          · exact htr3.1
          · exact ⟨htr3.2.1, htr3.2.2⟩
          · (rw [foldC_s (by omega)]; exact hst3)
          · (rw [foldC_s (by omega), hFFa]; exact hSBF _ _ _ _ _ _ hsb2)
          · omega
        · refine jblk hF [(.iconst 1, 1)] (by decide +kernel) (pc' := 43) (lo' := [(0, (2, 14)), (1, (0, u)), (2, (0, k)), (3, (1, mem 15 k)), (5, (0, c))]) (st' := [(0, 1)]) rfl ?_
          refine jgoto hF (off := 4) 47 (by decide +kernel) (by decide) ?_
          refine jblk hF [(.istore 6, 2), (.aload_n 0, 1)] (by decide +kernel) (pc' := 50) (lo' := [(6, (0, 1)), (0, (2, 14)), (1, (0, u)), (2, (0, k)), (3, (1, mem 15 k)), (5, (0, c))]) (st' := [(2, 14)]) rfl ?_
          refine jget hF 7 2 2 2 rfl (by decide) (by decide) rfl wd_219 (by decide +kernel) (by exact hK.k14) ?_
          rw [HR.r14_2 hR_m2]
          refine jblk hF [(.iload_n 1, 1), (.iload 6, 2)] (by decide +kernel) (pc' := 56) (lo' := [(6, (0, 1)), (0, (2, 14)), (1, (0, u)), (2, (0, k)), (3, (1, mem 15 k)), (5, (0, c))]) (st' := [(0, 1), (0, u), (2, 17)]) rfl ?_
          refine jif_eq hF (off := 8) 64 (by decide +kernel) (by decide) (by decide) (fun h => absurd h (by decide)) (fun _ => ?_)
          refine jblk hF [(.bipush 9, 2)] (by decide +kernel) (pc' := 61) (lo' := [(6, (0, 1)), (0, (2, 14)), (1, (0, u)), (2, (0, k)), (3, (1, mem 15 k)), (5, (0, c))]) (st' := [(0, 9), (0, u), (2, 17)]) rfl ?_
          refine jgoto hF (off := 5) 66 (by decide +kernel) (by decide) ?_
          have hCo : 9 = coC (mem 14 8) c := by unfold coC; first | exact (if_pos (by omega)).symm | exact (if_neg (by omega)).symm
          refine jiast hF (by decide +kernel) (by decide) (by exact hK.k17) (by omega) (by have := hK.l17; omega) ?_
          refine jblk hF [(.iload 6, 2)] (by decide +kernel) (pc' := 69) (lo' := [(6, (0, 1)), (0, (2, 14)), (1, (0, u)), (2, (0, k)), (3, (1, mem 15 k)), (5, (0, c))]) (st' := [(0, 1)]) rfl ?_
          refine jif_eq hF (off := 12) 81 (by decide +kernel) (by decide) (by decide) (fun h => absurd h (by decide)) (fun _ => ?_)
          refine jblk hF [(.aload_n 0, 1)] (by decide +kernel) (pc' := 73) (lo' := [(6, (0, 1)), (0, (2, 14)), (1, (0, u)), (2, (0, k)), (3, (1, mem 15 k)), (5, (0, c))]) (st' := [(2, 14)]) rfl ?_
          refine jget hF 7 8 0 8 rfl (by decide) (by decide) rfl wd_228 (by decide +kernel) (by exact hK.k14) ?_
          rw [show (set2 m2 17 u 9) 14 8 = m2 14 8 from (s2_a (by decide))]
          refine jblk hF [(.iconst 1, 1), (.iadd, 1)] (by decide +kernel) (pc' := 78) (lo' := [(6, (0, 1)), (0, (2, 14)), (1, (0, u)), (2, (0, k)), (3, (1, mem 15 k)), (5, (0, c))]) (st' := [(0, (m2 14 8) + 1)]) rfl ?_
          refine jgoto hF (off := 10) 88 (by decide +kernel) (by decide) ?_
          refine jblk hF [(.istore 7, 2)] (by decide +kernel) (pc' := 90) (lo' := [(7, (0, (m2 14 8) + 1)), (6, (0, 1)), (0, (2, 14)), (1, (0, u)), (2, (0, k)), (3, (1, mem 15 k)), (5, (0, c))]) (st' := []) rfl ?_
          have hT : ((m2 14 8) + 1) = tmC (mem 14 8) c := by unfold tmC; first | (rw [if_pos (by omega)]; omega) | (rw [if_neg (by omega)]; omega)
          have hT5 : 0 ≤ tmC (mem 14 8) c ∧ tmC (mem 14 8) c ≤ 5 := by omega
          have g7b : (set2 m2 17 u 9) 14 7 = mem 14 7 := (s2_a (by decide)).trans f7
          have e15 : (set2 m2 17 u 9) 15 = m2 15 := funext fun j => s2_a (by decide)
          refine jblk hF [(.aload_n 0, 1), (.iload_n 2, 1), (.iload 7, 2), (.lload_n 3, 1), (.lneg, 1)] (by decide +kernel) (pc' := 96) (lo' := [(7, (0, (m2 14 8) + 1)), (6, (0, 1)), (0, (2, 14)), (1, (0, u)), (2, (0, k)), (3, (1, mem 15 k)), (5, (0, c))]) (st' := [(1, -(mem 15 k)), (0, (m2 14 8) + 1), (0, k), (2, 14)]) rfl ?_
          refine jcallV hF (c_X6_addTo hG hK (HR.s hR_m2 (by omega)) k ((m2 14 8) + 1) (-(mem 15 k)) (by omega) (by omega) (by omega)) MW_X6_addTo 7 (by decide) (by exact hK.k14) wd_1073 wd_1075 wd_p35 (by decide +kernel) [] rfl rfl (by decide) (Nat.le_of_ble_eq_true rfl) (by decide) (kMV (fun m_16 h_17 => ?_))
          obtain ⟨hR_m_16, h_17⟩ := h_17
          have hb9 := h_17.1
          have hx9 := h_17.2
          refine jblk hF [(.aload_n 0, 1), (.iload_n 1, 1), (.iconst 1, 1), (.iadd, 1), (.iload_n 2, 1), (.iconst 1, 1), (.iadd, 1)] (by decide +kernel) (pc' := 106) (lo' := [(7, (0, (m2 14 8) + 1)), (6, (0, 1)), (0, (2, 14)), (1, (0, u)), (2, (0, k)), (3, (1, mem 15 k)), (5, (0, c))]) (st' := [(0, k + 1), (0, u + 1), (2, 14)]) rfl ?_
          have hfs9 : FSC mem m_16 := (hfs2.tr (FSC.s _ _ (by decide))).tr (FSC.of15 hb9)
          have g7 : m_16 14 7 = mem 14 7 := hfs9 14 7 (by decide) (by decide)
          have g8 : m_16 14 8 = mem 14 8 := hfs9 14 8 (by decide) (by decide)
          have hrs9 : m_16 15 = markJ (mem 14 7) rs k (tmC (mem 14 8) c) (-(rs k)) (tmC (mem 14 8) c + 1) := by
            funext x
            rw [hx9 x, hT, g7b, e15, hz15, hrk0]
          have htr9 : TRC m_16 3 (upI tl 2 k) (upI tc 2 (coC (mem 14 8) c)) (upI ta 2 (rs k)) := trc_up htr2 (fun j q1 => by rw [hb9 16 j (by decide), s2_a (by decide)]) (fun j q1 => by rw [hb9 17 j (by decide)]; exact s2_k (by omega)) (fun j q1 => by rw [hb9 18 j (by decide), s2_a (by decide)]) (by rw [hb9 16 _ (by decide), s2_a (by decide)]; exact h16.1) (by rw [hb9 17 _ (by decide), ← hCo, ← hu]; exact s2_s) (by rw [hb9 18 _ (by decide), s2_a (by decide)]; exact h16.2)
          have hst9 : SKP m_16 (foldC FF c.toNat S) := hst2.of (fun a j q1 q2 q3 q4 => by rw [hb9 a j q1, s2_a q3])
          refine jcallV hF (c_sk3 hG hK hR_m_16 (u + 1) (k + 1) (by exact (markJ (mem 14 7) rs k (tmC (mem 14 8) c) (-(rs k)) (tmC (mem 14 8) c + 1))) (by exact (upI tl 2 k)) (by exact (upI tc 2 (coC (mem 14 8) c))) (by exact (upI ta 2 (rs k))) (by exact (foldC FF c.toNat S)) (by omega) (by rw [g7]; omega) (by rw [g7]; omega) (by rw [g8]; omega) (by exact hrs9) (by exact htr9) (by exact hst9) (by exact hsb2) (by rw [g7]; exact hbd.mark ⟨by omega, by omega⟩ hT5 (by decide))) MW_X6_seek 7 (by decide) (by exact hK.k14) wd_1061 wd_1063 wd_p32 (by decide +kernel) [] rfl rfl (by decide) (Nat.le_of_ble_eq_true rfl) (by decide) (kMV (fun m_18 h_19 => ?_))
          obtain ⟨hR_m_18, h_19⟩ := h_19
          obtain ⟨hfs8, hz8, htr8, hst8⟩ := h_19
          rw [g7, g8] at hst8
          have i7 : m_18 14 7 = mem 14 7 := (hfs9.tr hfs8) 14 7 (by decide) (by decide)
          refine jblk hF [(.aload_n 0, 1), (.iload_n 2, 1), (.iload 7, 2), (.lload_n 3, 1)] (by decide +kernel) (pc' := 114) (lo' := [(7, (0, (m2 14 8) + 1)), (6, (0, 1)), (0, (2, 14)), (1, (0, u)), (2, (0, k)), (3, (1, mem 15 k)), (5, (0, c))]) (st' := [(1, mem 15 k), (0, (m2 14 8) + 1), (0, k), (2, 14)]) rfl ?_
          refine jcallV hF (c_X6_addTo hG hK hR_m_18 k ((m2 14 8) + 1) (mem 15 k) (by omega) (by omega) (by omega)) MW_X6_addTo 7 (by decide) (by exact hK.k14) wd_1073 wd_1075 wd_p35 (by decide +kernel) [] rfl rfl (by decide) (Nat.le_of_ble_eq_true rfl) (by decide) (kMV (fun m_20 h_21 => ?_))
          obtain ⟨hR_m_20, h_21⟩ := h_21
          have hfs3 : FSC mem m_20 := (hfs9.tr hfs8).tr (FSC.of15 h_21.1)
          have hz3 : m_20 15 = rs := by
            funext x
            rw [h_21.2 x, hT, i7, hz8, hrs9, hrk0]
            exact markJ_back x
          have htr3 := trc_dn (u := 2) (m := m_20) (htr8.of ⟨funext fun j => h_21.1 16 j (by decide), funext fun j => h_21.1 17 j (by decide), funext fun j => h_21.1 18 j (by decide)⟩) (by decide)
          have hst3 : SKP m_20 (FF c (foldC FF c.toNat S)) := by rw [hFFa]; exact hst8.of (fun a j q1 _ _ _ => h_21.1 a j q1)
          refine jblk hF [(.iinc 5 1, 3)] (by decide +kernel) (pc' := 120) (lo' := [(5, (0, c + 1)), (7, (0, (m2 14 8) + 1)), (6, (0, 1)), (0, (2, 14)), (1, (0, u)), (2, (0, k)), (3, (1, mem 15 k))]) (st' := []) rfl ?_
          refine jgoto hF (off := (-96)) 24 (by decide +kernel) (by decide) ?_
          refine jsub [3, 4, 5, 6, 0] rfl ?_
          refine ih_1 (c + 1) m_20 ?_ ?_ ?_ ?_ ?_ ?_ ?_ ?_ ?_
          · exact hR_m_20
          · omega
          · exact hfs3
          · exact hz3
          · exact htr3.1
          · exact ⟨htr3.2.1, htr3.2.2⟩
          · (rw [foldC_s (by omega)]; exact hst3)
          · (rw [foldC_s (by omega), hFFa]; exact hSBF _ _ _ _ _ _ hsb2)
          · omega
  refine jsub [2, 3, 4, 1, 0] rfl ?_
  refine L_2 _ 0 (set2 (set2 mem 16 u k) 18 u (mem 15 k)) ?_ ?_ ?_ ?_ ?_ ?_ ?_ ?_ (Nat.lt_succ_self _)
  · exact (HR.s (HR.s hR (by omega)) (by omega))
  · omega
  · exact (FSC.s _ _ (by decide)).tr (FSC.s _ _ (by decide))
  · exact hrs
  · (intro j h1 h2; have w := htr j h1 h2; refine ⟨?_, w.2.1, ?_⟩; (rw [s2_a (by decide), s2_k (by omega)]; exact w.1); (rw [s2_k (by omega), s2_a (by decide)]; exact w.2.2))
  · exact ⟨by rw [s2_a (by decide), ← hu, s2_s], by rw [← hu, s2_s, hrs]⟩
  · exact hst.of (fun a j q1 q2 q3 q4 => by rw [s2_a q4, s2_a q2])
  · exact hsb
set_option maxHeartbeats 4000000 in
set_option maxRecDepth 100000 in
theorem c_sk2 {l : Launch} {g : GP} (hG : GH g) {kd : Int → Nat} {ln : Int → Int} {mem : Int → Int → Int} {sz : Nat} (hK : HK kd ln) (hR : HR mem) (u n : Int) (rs : Int → Int) (tl : Int → Int) (tc : Int → Int) (ta : Int → Int) (S : ST) (hu : u = 2) (hni : 0 ≤ n ∧ n ≤ mem 14 7) (hN : mem 14 7 ≤ 40) (ho : 0 ≤ mem 14 8 ∧ mem 14 8 ≤ 4) (hrs : mem 15 = rs) (htr : TRC mem 2 tl tc ta) (hst : SKP mem S) (hsb : SBP S) (hbd : BRS (mem 14 7) n 484000000000 rs) : MT l g yX6_seek cX6_seek 4 none 5 0 0 [(2, 14), (0, u), (0, n)] kd ln mem sz (pMV (fun mem' => HR mem' ∧ (SKR mem mem' 2 2 rs n tl tc ta S)) kd ln sz) := by
  refine MT_of hG (by decide +kernel) (Nat.le_of_ble_eq_true rfl) (fun z hF hr hn => ?_)
  have hb1 := hsb.1
  have hb2 := hsb.2
  have h9 := hst.1
  have hrk := congrFun hrs
  have htr0 : TRC mem u tl tc ta := by rw [hu]; exact htr
  refine jblk hF [(.iload_n 2, 1), (.istore_n 3, 1)] (by decide +kernel) (pc' := 2) (lo' := [(3, (0, n)), (0, (2, 14)), (1, (0, u)), (2, (0, n))]) (st' := []) rfl ?_
  have L_2 : ∀ (fu_3 : Nat) (k : Int), (n ≤ k ∧ k ≤ mem 14 7) → (skipN rs n (mem 14 7 - n).toNat = skipN rs k (mem 14 7 - k).toNat) →  (mem 14 7 - k).toNat < fu_3 → J z g 4 0 0 (QM z g 0 0 (pMV (fun mem' => HR mem' ∧ (SKR mem mem' 2 2 rs n tl tc ta S)) kd ln sz)) 2 [(0, (2, 14)), (1, (0, u)), (2, (0, n)), (3, (0, k))] [] kd ln mem sz := by
    intro fu_3
    induction fu_3 with
    | zero => intro k _ _ hm; omega
    | succ fu_3 ih_1 =>
      intro k hk hsk hm
      refine jblk hF [(.iload_n 3, 1)] (by decide +kernel) (pc' := 3) (lo' := [(0, (2, 14)), (1, (0, u)), (2, (0, n)), (3, (0, k))]) (st' := [(0, k)]) rfl ?_
      refine jblk hF [(.aload_n 0, 1)] (by decide +kernel) (pc' := 4) (lo' := [(0, (2, 14)), (1, (0, u)), (2, (0, n)), (3, (0, k))]) (st' := [(2, 14), (0, k)]) rfl ?_
      refine jget hF 7 7 0 7 rfl (by decide) (by decide) rfl wd_227 (by decide +kernel) (by exact hK.k14) ?_
      refine jicmp_ge hF (off := 20) 27 (by decide +kernel) (by decide) (by omega) (by omega) (fun h_4 => ?_) (fun h_4 => ?_)
      · refine jblk hF [(.iload_n 3, 1), (.aload_n 0, 1)] (by decide +kernel) (pc' := 29) (lo' := [(0, (2, 14)), (1, (0, u)), (2, (0, n)), (3, (0, k))]) (st' := [(2, 14), (0, k)]) rfl ?_
        refine jget hF 7 7 0 7 rfl (by decide) (by decide) rfl wd_227 (by decide +kernel) (by exact hK.k14) ?_
        refine jicmp_lt hF (off := 9) 41 (by decide +kernel) (by decide) (by omega) (by omega) (fun h_5 => ?_) (fun h_5 => ?_)
        · exfalso; omega
        · refine jblk hF [(.aload_n 0, 1), (.iload_n 1, 1)] (by decide +kernel) (pc' := 37) (lo' := [(0, (2, 14)), (1, (0, u)), (2, (0, n)), (3, (0, k))]) (st' := [(0, u), (2, 14)]) rfl ?_
          refine jcallV hF (c_X6_keep hG hK hR u (by exact tl) (by exact tc) (by exact ta) (by exact S) (by omega) (by exact htr0) (by assumption) (by assumption)) MW_X6_keep 7 (by decide) (by exact hK.k14) wd_1065 wd_1067 wd_p33 (by decide +kernel) [] rfl rfl (by decide) (Nat.le_of_ble_eq_true rfl) (by decide) (kMV (fun m_6 h_7 => ?_))
          obtain ⟨hR_m_6, h_7⟩ := h_7
          have hkp := h_7
          refine jvret hF hr (by decide +kernel) ?_
          exact lMV ⟨hR_m_6, by (have hsT : skipN rs n (mem 14 7 - n).toNat = mem 14 7 := (by rw [hsk, show k = mem 14 7 by omega]; exact skip_n); unfold SKR; rw [seekPT (u := 2) (by decide) hsT, ← hu]; exact ⟨hkp.1, hkp.2.1.1, htr0.of hkp.2.1.2, hkp.2.2⟩)⟩
      · refine jblk hF [(.aload_n 0, 1)] (by decide +kernel) (pc' := 11) (lo' := [(0, (2, 14)), (1, (0, u)), (2, (0, n)), (3, (0, k))]) (st' := [(2, 14)]) rfl ?_
        refine jget hF 7 0 2 0 rfl (by decide) (by decide) rfl wd_217 (by decide +kernel) (by exact hK.k14) ?_
        rw [HR.r14_0 hR]
        refine jblk hF [(.iload_n 3, 1)] (by decide +kernel) (pc' := 15) (lo' := [(0, (2, 14)), (1, (0, u)), (2, (0, n)), (3, (0, k))]) (st' := [(0, k), (2, 15)]) rfl ?_
        refine jlald hF (by decide +kernel) (by exact hK.k15) (by omega) (by have := hK.l15; omega) ?_
        refine jlconst hF (n := 0) 0 rfl (by decide +kernel) ?_
        refine jlcmpW_ne hF (off := 9) 27 (by decide +kernel) (by decide +kernel) (by decide) (fun h_8 => ?_) (fun h_8 => ?_)
        · refine jblk hF [(.iload_n 3, 1), (.aload_n 0, 1)] (by decide +kernel) (pc' := 29) (lo' := [(0, (2, 14)), (1, (0, u)), (2, (0, n)), (3, (0, k))]) (st' := [(2, 14), (0, k)]) rfl ?_
          refine jget hF 7 7 0 7 rfl (by decide) (by decide) rfl wd_227 (by decide +kernel) (by exact hK.k14) ?_
          refine jicmp_lt hF (off := 9) 41 (by decide +kernel) (by decide) (by omega) (by omega) (fun h_9 => ?_) (fun h_9 => ?_)
          · refine jblk hF [(.iload_n 1, 1)] (by decide +kernel) (pc' := 42) (lo' := [(0, (2, 14)), (1, (0, u)), (2, (0, n)), (3, (0, k))]) (st' := [(0, u)]) rfl ?_
            have hske : skipN rs n (mem 14 7 - n).toNat = k := by rw [hsk]; exact skip_e (by omega) (by rw [← hrs]; assumption)
            have hbk := hbd k (by omega) (by omega)
            refine jblk hF [(.iconst 4, 1)] (by decide +kernel) (pc' := 43) (lo' := [(0, (2, 14)), (1, (0, u)), (2, (0, n)), (3, (0, k))]) (st' := [(0, 4), (0, u)]) rfl ?_
            refine jicmp_ge hF (off := 11) 54 (by decide +kernel) (by decide) (by omega) (by decide) (fun h_10 => ?_) (fun h_10 => ?_)
            · refine jvret hF hr (by decide +kernel) ?_
              exact lMV ⟨hR, by (unfold SKR; rw [seekPZ (u := 2) (by decide) (by rw [hske]; omega) (by omega)]; exact ⟨FSC.rf, rfl, htr, hst⟩)⟩
            · refine jblk hF [(.iload_n 1, 1), (.aload_n 0, 1)] (by decide +kernel) (pc' := 48) (lo' := [(0, (2, 14)), (1, (0, u)), (2, (0, n)), (3, (0, k))]) (st' := [(2, 14), (0, u)]) rfl ?_
              refine jget hF 7 9 0 9 rfl (by decide) (by decide) rfl wd_229 (by decide +kernel) (by exact hK.k14) ?_
              refine jicmp_lt hF (off := 4) 55 (by decide +kernel) (by decide) (by omega) (by omega) (fun h_11 => ?_) (fun h_11 => ?_)
              · refine jblk hF [(.aload_n 0, 1), (.iload_n 1, 1), (.iload_n 3, 1)] (by decide +kernel) (pc' := 58) (lo' := [(0, (2, 14)), (1, (0, u)), (2, (0, n)), (3, (0, k))]) (st' := [(0, k), (0, u), (2, 14)]) rfl ?_
                refine jcallV hF (c_bl2 hG hK hR u k (by exact rs) (by exact tl) (by exact tc) (by exact ta) (by exact S) (by omega) (by omega) (by omega) (by omega) (by exact hrs) (by exact htr) (by exact hst) (by exact hsb) (by exact hbd.le (by omega))) MW_X6_blame 7 (by decide) (by exact hK.k14) wd_1069 wd_1071 wd_p34 (by decide +kernel) [] rfl rfl (by decide) (Nat.le_of_ble_eq_true rfl) (by decide) (kMV (fun m_12 h_13 => ?_))
                obtain ⟨hR_m_12, h_13⟩ := h_13
                have hbl := h_13
                refine jvret hF hr (by decide +kernel) ?_
                exact lMV ⟨hR_m_12, by (unfold SKR; rw [show (2 : Nat) = 1 + 1 from rfl, seekPL (u := 2) (by decide) hske (by omega) (by omega)]; exact hbl)⟩
              · refine jvret hF hr (by decide +kernel) ?_
                exact lMV ⟨hR, by (unfold SKR; rw [seekPZ (u := 2) (by decide) (by rw [hske]; omega) (by omega)]; exact ⟨FSC.rf, rfl, htr, hst⟩)⟩
          · exfalso; omega
        · refine jblk hF [(.iinc 3 1, 3)] (by decide +kernel) (pc' := 24) (lo' := [(3, (0, k + 1)), (0, (2, 14)), (1, (0, u)), (2, (0, n))]) (st' := []) rfl ?_
          refine jgoto hF (off := (-22)) 2 (by decide +kernel) (by decide) ?_
          refine jsub [1, 2, 3, 0] rfl ?_
          refine ih_1 (k + 1) ?_ ?_ ?_
          · omega
          · (rw [hsk]; exact skip_s (by omega) (by rw [← hrs]; assumption))
          · omega
  refine jsub [1, 2, 3, 0] rfl ?_
  refine L_2 _ n ?_ ?_ (Nat.lt_succ_self _)
  · omega
  · rfl
set_option maxHeartbeats 4000000 in
set_option maxRecDepth 100000 in
theorem c_bl1 {l : Launch} {g : GP} (hG : GH g) {kd : Int → Nat} {ln : Int → Int} {mem : Int → Int → Int} {sz : Nat} (hK : HK kd ln) (hR : HR mem) (u k : Int) (rs : Int → Int) (tl : Int → Int) (tc : Int → Int) (ta : Int → Int) (S : ST) (hu : u = 1) (hni : 0 ≤ k ∧ k < mem 14 7) (hN : mem 14 7 ≤ 40) (ho : 0 ≤ mem 14 8 ∧ mem 14 8 ≤ 4) (hrs : mem 15 = rs) (htr : TRC mem 1 tl tc ta) (hst : SKP mem S) (hsb : SBP S) (hbd : BRS (mem 14 7) k 44000000000 rs) : MT l g yX6_blame cX6_blame 8 none 6 0 0 [(2, 14), (0, u), (0, k)] kd ln mem sz (pMV (fun mem' => HR mem' ∧ (FSC mem mem' ∧ mem' 15 = mem 15 ∧ TRC mem' 1 tl tc ta ∧ SKP mem' (foldC (fun c => seekP (mem 14 7) (mem 14 8) 2 (markJ (mem 14 7) rs k (tmC (mem 14 8) c) (-(rs k)) (tmC (mem 14 8) c + 1)) (k + 1) (upI tl 1 k) (upI tc 1 (coC (mem 14 8) c)) (upI ta 1 (rs k))) (mem 14 8 + 1).toNat S))) kd ln sz) := by
  refine MT_of hG (by decide +kernel) (Nat.le_of_ble_eq_true rfl) (fun z hF hr hn => ?_)
  have hb1 := hsb.1
  have hb2 := hsb.2
  have h9 := hst.1
  have hrk := congrFun hrs
  have htr0 : TRC mem u tl tc ta := by rw [hu]; exact htr
  have hbk := hbd k (by omega) (by omega)
  obtain ⟨FF, hFF⟩ : ∃ FF : Int → ST → ST, FF = (fun c => seekP (mem 14 7) (mem 14 8) 2 (markJ (mem 14 7) rs k (tmC (mem 14 8) c) (-(rs k)) (tmC (mem 14 8) c + 1)) (k + 1) (upI tl 1 k) (upI tc 1 (coC (mem 14 8) c)) (upI ta 1 (rs k))) := ⟨_, rfl⟩
  have hFFa := fun (c9 : Int) (S9 : ST) => congrFun (congrFun hFF c9) S9
  have hSBF := fun (rs : Int → Int) (i : Int) (tl tc ta : Int → Int) (S : ST) (h : SBP S) => seekP_bd (N := mem 14 7) (o := mem 14 8) 2 (by decide) rs i tl tc ta S h
  have hrk0 : mem 15 k = rs k := hrk k
  refine jblk hF [(.aload_n 0, 1)] (by decide +kernel) (pc' := 1) (lo' := [(0, (2, 14)), (1, (0, u)), (2, (0, k))]) (st' := [(2, 14)]) rfl ?_
  refine jget hF 7 0 2 0 rfl (by decide) (by decide) rfl wd_217 (by decide +kernel) (by exact hK.k14) ?_
  rw [HR.r14_0 hR]
  refine jblk hF [(.iload_n 2, 1)] (by decide +kernel) (pc' := 5) (lo' := [(0, (2, 14)), (1, (0, u)), (2, (0, k))]) (st' := [(0, k), (2, 15)]) rfl ?_
  refine jlald hF (by decide +kernel) (by exact hK.k15) (by omega) (by have := hK.l15; omega) ?_
  refine jblk hF [(.lstore_n 3, 1), (.aload_n 0, 1)] (by decide +kernel) (pc' := 8) (lo' := [(3, (1, mem 15 k)), (0, (2, 14)), (1, (0, u)), (2, (0, k))]) (st' := [(2, 14)]) rfl ?_
  refine jget hF 7 1 2 1 rfl (by decide) (by decide) rfl wd_218 (by decide +kernel) (by exact hK.k14) ?_
  rw [HR.r14_1 hR]
  refine jblk hF [(.iload_n 1, 1), (.iload_n 2, 1)] (by decide +kernel) (pc' := 13) (lo' := [(3, (1, mem 15 k)), (0, (2, 14)), (1, (0, u)), (2, (0, k))]) (st' := [(0, k), (0, u), (2, 16)]) rfl ?_
  refine jiast hF (by decide +kernel) (by decide) (by exact hK.k16) (by omega) (by have := hK.l16; omega) ?_
  refine jblk hF [(.aload_n 0, 1)] (by decide +kernel) (pc' := 15) (lo' := [(3, (1, mem 15 k)), (0, (2, 14)), (1, (0, u)), (2, (0, k))]) (st' := [(2, 14)]) rfl ?_
  refine jget hF 7 3 2 3 rfl (by decide) (by decide) rfl wd_220 (by decide +kernel) (by exact hK.k14) ?_
  rw [HR.r14_3 (HR.s hR (by omega))]
  refine jblk hF [(.iload_n 1, 1), (.lload_n 3, 1)] (by decide +kernel) (pc' := 20) (lo' := [(3, (1, mem 15 k)), (0, (2, 14)), (1, (0, u)), (2, (0, k))]) (st' := [(1, mem 15 k), (0, u), (2, 18)]) rfl ?_
  refine jlast hF (by decide +kernel) (by decide) (by exact hK.k18) (by omega) (by have := hK.l18; omega) ?_
  refine jblk hF [(.iconst 0, 1), (.istore 5, 2)] (by decide +kernel) (pc' := 24) (lo' := [(5, (0, 0)), (3, (1, mem 15 k)), (0, (2, 14)), (1, (0, u)), (2, (0, k))]) (st' := []) rfl ?_
  have L_2 : ∀ (fu_3 : Nat) (c : Int) (m2 : Int → Int → Int), (HR m2) → (0 ≤ c ∧ c ≤ mem 14 8 + 1) → (FSC mem m2) → (m2 15 = rs) → (TRC m2 1 tl tc ta) → (m2 16 1 = k ∧ m2 18 1 = rs k) → (SKP m2 (foldC FF c.toNat S)) → (SBP (foldC FF c.toNat S)) →  (mem 14 8 + 1 - c).toNat < fu_3 → J z g 8 0 0 (QM z g 0 0 (pMV (fun mem' => HR mem' ∧ (FSC mem mem' ∧ mem' 15 = mem 15 ∧ TRC mem' 1 tl tc ta ∧ SKP mem' (foldC (fun c => seekP (mem 14 7) (mem 14 8) 2 (markJ (mem 14 7) rs k (tmC (mem 14 8) c) (-(rs k)) (tmC (mem 14 8) c + 1)) (k + 1) (upI tl 1 k) (upI tc 1 (coC (mem 14 8) c)) (upI ta 1 (rs k))) (mem 14 8 + 1).toNat S))) kd ln sz)) 24 [(0, (2, 14)), (1, (0, u)), (2, (0, k)), (3, (1, mem 15 k)), (5, (0, c))] [] kd ln m2 sz := by
    intro fu_3
    induction fu_3 with
    | zero => intro c m2 _ _ _ _ _ _ _ _ hm; omega
    | succ fu_3 ih_1 =>
      intro c m2 hR_m2 hc hfs2 hz15 htr2 h16 hst2 hsb2 hm2
      have f7 : m2 14 7 = mem 14 7 := hfs2 14 7 (by decide) (by decide)
      have f8 : m2 14 8 = mem 14 8 := hfs2 14 8 (by decide) (by decide)
      have hu5 : 0 ≤ u ∧ u < 4 := by omega
      refine jblk hF [(.iload 5, 2), (.aload_n 0, 1)] (by decide +kernel) (pc' := 27) (lo' := [(0, (2, 14)), (1, (0, u)), (2, (0, k)), (3, (1, mem 15 k)), (5, (0, c))]) (st' := [(2, 14), (0, c)]) rfl ?_
      refine jget hF 7 8 0 8 rfl (by decide) (by decide) rfl wd_228 (by decide +kernel) (by exact hK.k14) ?_
      refine jicmp_gt hF (off := 93) 123 (by decide +kernel) (by decide) (by omega) (by omega) (fun h_4 => ?_) (fun h_4 => ?_)
      · refine jvret hF hr (by decide +kernel) ?_
        exact lMV ⟨hR_m2, by (rw [← hFF, show (mem 14 8 + 1).toNat = c.toNat by omega]; exact ⟨hfs2, hz15.trans hrs.symm, htr2, hst2⟩)⟩
      · refine jblk hF [(.iload 5, 2), (.aload_n 0, 1)] (by decide +kernel) (pc' := 36) (lo' := [(0, (2, 14)), (1, (0, u)), (2, (0, k)), (3, (1, mem 15 k)), (5, (0, c))]) (st' := [(2, 14), (0, c)]) rfl ?_
        refine jget hF 7 8 0 8 rfl (by decide) (by decide) rfl wd_228 (by decide +kernel) (by exact hK.k14) ?_
        refine jicmp_ne hF (off := 7) 46 (by decide +kernel) (by decide) (by omega) (by omega) (fun h_5 => ?_) (fun h_5 => ?_)
        · refine jblk hF [(.iconst 0, 1), (.istore 6, 2), (.aload_n 0, 1)] (by decide +kernel) (pc' := 50) (lo' := [(6, (0, 0)), (0, (2, 14)), (1, (0, u)), (2, (0, k)), (3, (1, mem 15 k)), (5, (0, c))]) (st' := [(2, 14)]) rfl ?_
          refine jget hF 7 2 2 2 rfl (by decide) (by decide) rfl wd_219 (by decide +kernel) (by exact hK.k14) ?_
          rw [HR.r14_2 hR_m2]
          refine jblk hF [(.iload_n 1, 1), (.iload 6, 2)] (by decide +kernel) (pc' := 56) (lo' := [(6, (0, 0)), (0, (2, 14)), (1, (0, u)), (2, (0, k)), (3, (1, mem 15 k)), (5, (0, c))]) (st' := [(0, 0), (0, u), (2, 17)]) rfl ?_
          refine jif_eq hF (off := 8) 64 (by decide +kernel) (by decide) (by decide) (fun _ => ?_) (fun h => absurd h (by decide))
          refine jblk hF [(.iload 5, 2)] (by decide +kernel) (pc' := 66) (lo' := [(6, (0, 0)), (0, (2, 14)), (1, (0, u)), (2, (0, k)), (3, (1, mem 15 k)), (5, (0, c))]) (st' := [(0, c), (0, u), (2, 17)]) rfl ?_
          have hCo : c = coC (mem 14 8) c := by unfold coC; first | exact (if_pos (by omega)).symm | exact (if_neg (by omega)).symm
          refine jiast hF (by decide +kernel) (by decide) (by exact hK.k17) (by omega) (by have := hK.l17; omega) ?_
          refine jblk hF [(.iload 6, 2)] (by decide +kernel) (pc' := 69) (lo' := [(6, (0, 0)), (0, (2, 14)), (1, (0, u)), (2, (0, k)), (3, (1, mem 15 k)), (5, (0, c))]) (st' := [(0, 0)]) rfl ?_
          refine jif_eq hF (off := 12) 81 (by decide +kernel) (by decide) (by decide) (fun _ => ?_) (fun h => absurd h (by decide))
          refine jblk hF [(.aload_n 0, 1)] (by decide +kernel) (pc' := 82) (lo' := [(6, (0, 0)), (0, (2, 14)), (1, (0, u)), (2, (0, k)), (3, (1, mem 15 k)), (5, (0, c))]) (st' := [(2, 14)]) rfl ?_
          refine jget hF 7 8 0 8 rfl (by decide) (by decide) rfl wd_228 (by decide +kernel) (by exact hK.k14) ?_
          rw [show (set2 m2 17 u c) 14 8 = m2 14 8 from (s2_a (by decide))]
          refine jblk hF [(.iload 5, 2), (.isub, 1), (.istore 7, 2)] (by decide +kernel) (pc' := 90) (lo' := [(7, (0, (m2 14 8) - c)), (6, (0, 0)), (0, (2, 14)), (1, (0, u)), (2, (0, k)), (3, (1, mem 15 k)), (5, (0, c))]) (st' := []) rfl ?_
          have hT : ((m2 14 8) - c) = tmC (mem 14 8) c := by unfold tmC; first | (rw [if_pos (by omega)]; omega) | (rw [if_neg (by omega)]; omega)
          have hT5 : 0 ≤ tmC (mem 14 8) c ∧ tmC (mem 14 8) c ≤ 5 := by omega
          have g7b : (set2 m2 17 u c) 14 7 = mem 14 7 := (s2_a (by decide)).trans f7
          have e15 : (set2 m2 17 u c) 15 = m2 15 := funext fun j => s2_a (by decide)
          refine jblk hF [(.aload_n 0, 1), (.iload_n 2, 1), (.iload 7, 2), (.lload_n 3, 1), (.lneg, 1)] (by decide +kernel) (pc' := 96) (lo' := [(7, (0, (m2 14 8) - c)), (6, (0, 0)), (0, (2, 14)), (1, (0, u)), (2, (0, k)), (3, (1, mem 15 k)), (5, (0, c))]) (st' := [(1, -(mem 15 k)), (0, (m2 14 8) - c), (0, k), (2, 14)]) rfl ?_
          refine jcallV hF (c_X6_addTo hG hK (HR.s hR_m2 (by omega)) k ((m2 14 8) - c) (-(mem 15 k)) (by omega) (by omega) (by omega)) MW_X6_addTo 7 (by decide) (by exact hK.k14) wd_1073 wd_1075 wd_p35 (by decide +kernel) [] rfl rfl (by decide) (Nat.le_of_ble_eq_true rfl) (by decide) (kMV (fun m_8 h_9 => ?_))
          obtain ⟨hR_m_8, h_9⟩ := h_9
          have hb9 := h_9.1
          have hx9 := h_9.2
          refine jblk hF [(.aload_n 0, 1), (.iload_n 1, 1), (.iconst 1, 1), (.iadd, 1), (.iload_n 2, 1), (.iconst 1, 1), (.iadd, 1)] (by decide +kernel) (pc' := 106) (lo' := [(7, (0, (m2 14 8) - c)), (6, (0, 0)), (0, (2, 14)), (1, (0, u)), (2, (0, k)), (3, (1, mem 15 k)), (5, (0, c))]) (st' := [(0, k + 1), (0, u + 1), (2, 14)]) rfl ?_
          have hfs9 : FSC mem m_8 := (hfs2.tr (FSC.s _ _ (by decide))).tr (FSC.of15 hb9)
          have g7 : m_8 14 7 = mem 14 7 := hfs9 14 7 (by decide) (by decide)
          have g8 : m_8 14 8 = mem 14 8 := hfs9 14 8 (by decide) (by decide)
          have hrs9 : m_8 15 = markJ (mem 14 7) rs k (tmC (mem 14 8) c) (-(rs k)) (tmC (mem 14 8) c + 1) := by
            funext x
            rw [hx9 x, hT, g7b, e15, hz15, hrk0]
          have htr9 : TRC m_8 2 (upI tl 1 k) (upI tc 1 (coC (mem 14 8) c)) (upI ta 1 (rs k)) := trc_up htr2 (fun j q1 => by rw [hb9 16 j (by decide), s2_a (by decide)]) (fun j q1 => by rw [hb9 17 j (by decide)]; exact s2_k (by omega)) (fun j q1 => by rw [hb9 18 j (by decide), s2_a (by decide)]) (by rw [hb9 16 _ (by decide), s2_a (by decide)]; exact h16.1) (by rw [hb9 17 _ (by decide), ← hCo, ← hu]; exact s2_s) (by rw [hb9 18 _ (by decide), s2_a (by decide)]; exact h16.2)
          have hst9 : SKP m_8 (foldC FF c.toNat S) := hst2.of (fun a j q1 q2 q3 q4 => by rw [hb9 a j q1, s2_a q3])
          refine jcallV hF (c_sk2 hG hK hR_m_8 (u + 1) (k + 1) (by exact (markJ (mem 14 7) rs k (tmC (mem 14 8) c) (-(rs k)) (tmC (mem 14 8) c + 1))) (by exact (upI tl 1 k)) (by exact (upI tc 1 (coC (mem 14 8) c))) (by exact (upI ta 1 (rs k))) (by exact (foldC FF c.toNat S)) (by omega) (by rw [g7]; omega) (by rw [g7]; omega) (by rw [g8]; omega) (by exact hrs9) (by exact htr9) (by exact hst9) (by exact hsb2) (by rw [g7]; exact hbd.mark ⟨by omega, by omega⟩ hT5 (by decide))) MW_X6_seek 7 (by decide) (by exact hK.k14) wd_1061 wd_1063 wd_p32 (by decide +kernel) [] rfl rfl (by decide) (Nat.le_of_ble_eq_true rfl) (by decide) (kMV (fun m_10 h_11 => ?_))
          obtain ⟨hR_m_10, h_11⟩ := h_11
          obtain ⟨hfs8, hz8, htr8, hst8⟩ := h_11
          rw [g7, g8] at hst8
          have i7 : m_10 14 7 = mem 14 7 := (hfs9.tr hfs8) 14 7 (by decide) (by decide)
          refine jblk hF [(.aload_n 0, 1), (.iload_n 2, 1), (.iload 7, 2), (.lload_n 3, 1)] (by decide +kernel) (pc' := 114) (lo' := [(7, (0, (m2 14 8) - c)), (6, (0, 0)), (0, (2, 14)), (1, (0, u)), (2, (0, k)), (3, (1, mem 15 k)), (5, (0, c))]) (st' := [(1, mem 15 k), (0, (m2 14 8) - c), (0, k), (2, 14)]) rfl ?_
          refine jcallV hF (c_X6_addTo hG hK hR_m_10 k ((m2 14 8) - c) (mem 15 k) (by omega) (by omega) (by omega)) MW_X6_addTo 7 (by decide) (by exact hK.k14) wd_1073 wd_1075 wd_p35 (by decide +kernel) [] rfl rfl (by decide) (Nat.le_of_ble_eq_true rfl) (by decide) (kMV (fun m_12 h_13 => ?_))
          obtain ⟨hR_m_12, h_13⟩ := h_13
          have hfs3 : FSC mem m_12 := (hfs9.tr hfs8).tr (FSC.of15 h_13.1)
          have hz3 : m_12 15 = rs := by
            funext x
            rw [h_13.2 x, hT, i7, hz8, hrs9, hrk0]
            exact markJ_back x
          have htr3 := trc_dn (u := 1) (m := m_12) (htr8.of ⟨funext fun j => h_13.1 16 j (by decide), funext fun j => h_13.1 17 j (by decide), funext fun j => h_13.1 18 j (by decide)⟩) (by decide)
          have hst3 : SKP m_12 (FF c (foldC FF c.toNat S)) := by rw [hFFa]; exact hst8.of (fun a j q1 _ _ _ => h_13.1 a j q1)
          refine jblk hF [(.iinc 5 1, 3)] (by decide +kernel) (pc' := 120) (lo' := [(5, (0, c + 1)), (7, (0, (m2 14 8) - c)), (6, (0, 0)), (0, (2, 14)), (1, (0, u)), (2, (0, k)), (3, (1, mem 15 k))]) (st' := []) rfl ?_
          refine jgoto hF (off := (-96)) 24 (by decide +kernel) (by decide) ?_
          refine jsub [3, 4, 5, 6, 0] rfl ?_
          refine ih_1 (c + 1) m_12 ?_ ?_ ?_ ?_ ?_ ?_ ?_ ?_ ?_
          · exact hR_m_12
          · omega
          · exact hfs3
          · exact hz3
          · exact htr3.1
          · exact ⟨htr3.2.1, htr3.2.2⟩
          · (rw [foldC_s (by omega)]; exact hst3)
          · (rw [foldC_s (by omega), hFFa]; exact hSBF _ _ _ _ _ _ hsb2)
          · omega
        · refine jblk hF [(.iconst 1, 1)] (by decide +kernel) (pc' := 43) (lo' := [(0, (2, 14)), (1, (0, u)), (2, (0, k)), (3, (1, mem 15 k)), (5, (0, c))]) (st' := [(0, 1)]) rfl ?_
          refine jgoto hF (off := 4) 47 (by decide +kernel) (by decide) ?_
          refine jblk hF [(.istore 6, 2), (.aload_n 0, 1)] (by decide +kernel) (pc' := 50) (lo' := [(6, (0, 1)), (0, (2, 14)), (1, (0, u)), (2, (0, k)), (3, (1, mem 15 k)), (5, (0, c))]) (st' := [(2, 14)]) rfl ?_
          refine jget hF 7 2 2 2 rfl (by decide) (by decide) rfl wd_219 (by decide +kernel) (by exact hK.k14) ?_
          rw [HR.r14_2 hR_m2]
          refine jblk hF [(.iload_n 1, 1), (.iload 6, 2)] (by decide +kernel) (pc' := 56) (lo' := [(6, (0, 1)), (0, (2, 14)), (1, (0, u)), (2, (0, k)), (3, (1, mem 15 k)), (5, (0, c))]) (st' := [(0, 1), (0, u), (2, 17)]) rfl ?_
          refine jif_eq hF (off := 8) 64 (by decide +kernel) (by decide) (by decide) (fun h => absurd h (by decide)) (fun _ => ?_)
          refine jblk hF [(.bipush 9, 2)] (by decide +kernel) (pc' := 61) (lo' := [(6, (0, 1)), (0, (2, 14)), (1, (0, u)), (2, (0, k)), (3, (1, mem 15 k)), (5, (0, c))]) (st' := [(0, 9), (0, u), (2, 17)]) rfl ?_
          refine jgoto hF (off := 5) 66 (by decide +kernel) (by decide) ?_
          have hCo : 9 = coC (mem 14 8) c := by unfold coC; first | exact (if_pos (by omega)).symm | exact (if_neg (by omega)).symm
          refine jiast hF (by decide +kernel) (by decide) (by exact hK.k17) (by omega) (by have := hK.l17; omega) ?_
          refine jblk hF [(.iload 6, 2)] (by decide +kernel) (pc' := 69) (lo' := [(6, (0, 1)), (0, (2, 14)), (1, (0, u)), (2, (0, k)), (3, (1, mem 15 k)), (5, (0, c))]) (st' := [(0, 1)]) rfl ?_
          refine jif_eq hF (off := 12) 81 (by decide +kernel) (by decide) (by decide) (fun h => absurd h (by decide)) (fun _ => ?_)
          refine jblk hF [(.aload_n 0, 1)] (by decide +kernel) (pc' := 73) (lo' := [(6, (0, 1)), (0, (2, 14)), (1, (0, u)), (2, (0, k)), (3, (1, mem 15 k)), (5, (0, c))]) (st' := [(2, 14)]) rfl ?_
          refine jget hF 7 8 0 8 rfl (by decide) (by decide) rfl wd_228 (by decide +kernel) (by exact hK.k14) ?_
          rw [show (set2 m2 17 u 9) 14 8 = m2 14 8 from (s2_a (by decide))]
          refine jblk hF [(.iconst 1, 1), (.iadd, 1)] (by decide +kernel) (pc' := 78) (lo' := [(6, (0, 1)), (0, (2, 14)), (1, (0, u)), (2, (0, k)), (3, (1, mem 15 k)), (5, (0, c))]) (st' := [(0, (m2 14 8) + 1)]) rfl ?_
          refine jgoto hF (off := 10) 88 (by decide +kernel) (by decide) ?_
          refine jblk hF [(.istore 7, 2)] (by decide +kernel) (pc' := 90) (lo' := [(7, (0, (m2 14 8) + 1)), (6, (0, 1)), (0, (2, 14)), (1, (0, u)), (2, (0, k)), (3, (1, mem 15 k)), (5, (0, c))]) (st' := []) rfl ?_
          have hT : ((m2 14 8) + 1) = tmC (mem 14 8) c := by unfold tmC; first | (rw [if_pos (by omega)]; omega) | (rw [if_neg (by omega)]; omega)
          have hT5 : 0 ≤ tmC (mem 14 8) c ∧ tmC (mem 14 8) c ≤ 5 := by omega
          have g7b : (set2 m2 17 u 9) 14 7 = mem 14 7 := (s2_a (by decide)).trans f7
          have e15 : (set2 m2 17 u 9) 15 = m2 15 := funext fun j => s2_a (by decide)
          refine jblk hF [(.aload_n 0, 1), (.iload_n 2, 1), (.iload 7, 2), (.lload_n 3, 1), (.lneg, 1)] (by decide +kernel) (pc' := 96) (lo' := [(7, (0, (m2 14 8) + 1)), (6, (0, 1)), (0, (2, 14)), (1, (0, u)), (2, (0, k)), (3, (1, mem 15 k)), (5, (0, c))]) (st' := [(1, -(mem 15 k)), (0, (m2 14 8) + 1), (0, k), (2, 14)]) rfl ?_
          refine jcallV hF (c_X6_addTo hG hK (HR.s hR_m2 (by omega)) k ((m2 14 8) + 1) (-(mem 15 k)) (by omega) (by omega) (by omega)) MW_X6_addTo 7 (by decide) (by exact hK.k14) wd_1073 wd_1075 wd_p35 (by decide +kernel) [] rfl rfl (by decide) (Nat.le_of_ble_eq_true rfl) (by decide) (kMV (fun m_16 h_17 => ?_))
          obtain ⟨hR_m_16, h_17⟩ := h_17
          have hb9 := h_17.1
          have hx9 := h_17.2
          refine jblk hF [(.aload_n 0, 1), (.iload_n 1, 1), (.iconst 1, 1), (.iadd, 1), (.iload_n 2, 1), (.iconst 1, 1), (.iadd, 1)] (by decide +kernel) (pc' := 106) (lo' := [(7, (0, (m2 14 8) + 1)), (6, (0, 1)), (0, (2, 14)), (1, (0, u)), (2, (0, k)), (3, (1, mem 15 k)), (5, (0, c))]) (st' := [(0, k + 1), (0, u + 1), (2, 14)]) rfl ?_
          have hfs9 : FSC mem m_16 := (hfs2.tr (FSC.s _ _ (by decide))).tr (FSC.of15 hb9)
          have g7 : m_16 14 7 = mem 14 7 := hfs9 14 7 (by decide) (by decide)
          have g8 : m_16 14 8 = mem 14 8 := hfs9 14 8 (by decide) (by decide)
          have hrs9 : m_16 15 = markJ (mem 14 7) rs k (tmC (mem 14 8) c) (-(rs k)) (tmC (mem 14 8) c + 1) := by
            funext x
            rw [hx9 x, hT, g7b, e15, hz15, hrk0]
          have htr9 : TRC m_16 2 (upI tl 1 k) (upI tc 1 (coC (mem 14 8) c)) (upI ta 1 (rs k)) := trc_up htr2 (fun j q1 => by rw [hb9 16 j (by decide), s2_a (by decide)]) (fun j q1 => by rw [hb9 17 j (by decide)]; exact s2_k (by omega)) (fun j q1 => by rw [hb9 18 j (by decide), s2_a (by decide)]) (by rw [hb9 16 _ (by decide), s2_a (by decide)]; exact h16.1) (by rw [hb9 17 _ (by decide), ← hCo, ← hu]; exact s2_s) (by rw [hb9 18 _ (by decide), s2_a (by decide)]; exact h16.2)
          have hst9 : SKP m_16 (foldC FF c.toNat S) := hst2.of (fun a j q1 q2 q3 q4 => by rw [hb9 a j q1, s2_a q3])
          refine jcallV hF (c_sk2 hG hK hR_m_16 (u + 1) (k + 1) (by exact (markJ (mem 14 7) rs k (tmC (mem 14 8) c) (-(rs k)) (tmC (mem 14 8) c + 1))) (by exact (upI tl 1 k)) (by exact (upI tc 1 (coC (mem 14 8) c))) (by exact (upI ta 1 (rs k))) (by exact (foldC FF c.toNat S)) (by omega) (by rw [g7]; omega) (by rw [g7]; omega) (by rw [g8]; omega) (by exact hrs9) (by exact htr9) (by exact hst9) (by exact hsb2) (by rw [g7]; exact hbd.mark ⟨by omega, by omega⟩ hT5 (by decide))) MW_X6_seek 7 (by decide) (by exact hK.k14) wd_1061 wd_1063 wd_p32 (by decide +kernel) [] rfl rfl (by decide) (Nat.le_of_ble_eq_true rfl) (by decide) (kMV (fun m_18 h_19 => ?_))
          obtain ⟨hR_m_18, h_19⟩ := h_19
          obtain ⟨hfs8, hz8, htr8, hst8⟩ := h_19
          rw [g7, g8] at hst8
          have i7 : m_18 14 7 = mem 14 7 := (hfs9.tr hfs8) 14 7 (by decide) (by decide)
          refine jblk hF [(.aload_n 0, 1), (.iload_n 2, 1), (.iload 7, 2), (.lload_n 3, 1)] (by decide +kernel) (pc' := 114) (lo' := [(7, (0, (m2 14 8) + 1)), (6, (0, 1)), (0, (2, 14)), (1, (0, u)), (2, (0, k)), (3, (1, mem 15 k)), (5, (0, c))]) (st' := [(1, mem 15 k), (0, (m2 14 8) + 1), (0, k), (2, 14)]) rfl ?_
          refine jcallV hF (c_X6_addTo hG hK hR_m_18 k ((m2 14 8) + 1) (mem 15 k) (by omega) (by omega) (by omega)) MW_X6_addTo 7 (by decide) (by exact hK.k14) wd_1073 wd_1075 wd_p35 (by decide +kernel) [] rfl rfl (by decide) (Nat.le_of_ble_eq_true rfl) (by decide) (kMV (fun m_20 h_21 => ?_))
          obtain ⟨hR_m_20, h_21⟩ := h_21
          have hfs3 : FSC mem m_20 := (hfs9.tr hfs8).tr (FSC.of15 h_21.1)
          have hz3 : m_20 15 = rs := by
            funext x
            rw [h_21.2 x, hT, i7, hz8, hrs9, hrk0]
            exact markJ_back x
          have htr3 := trc_dn (u := 1) (m := m_20) (htr8.of ⟨funext fun j => h_21.1 16 j (by decide), funext fun j => h_21.1 17 j (by decide), funext fun j => h_21.1 18 j (by decide)⟩) (by decide)
          have hst3 : SKP m_20 (FF c (foldC FF c.toNat S)) := by rw [hFFa]; exact hst8.of (fun a j q1 _ _ _ => h_21.1 a j q1)
          refine jblk hF [(.iinc 5 1, 3)] (by decide +kernel) (pc' := 120) (lo' := [(5, (0, c + 1)), (7, (0, (m2 14 8) + 1)), (6, (0, 1)), (0, (2, 14)), (1, (0, u)), (2, (0, k)), (3, (1, mem 15 k))]) (st' := []) rfl ?_
          refine jgoto hF (off := (-96)) 24 (by decide +kernel) (by decide) ?_
          refine jsub [3, 4, 5, 6, 0] rfl ?_
          refine ih_1 (c + 1) m_20 ?_ ?_ ?_ ?_ ?_ ?_ ?_ ?_ ?_
          · exact hR_m_20
          · omega
          · exact hfs3
          · exact hz3
          · exact htr3.1
          · exact ⟨htr3.2.1, htr3.2.2⟩
          · (rw [foldC_s (by omega)]; exact hst3)
          · (rw [foldC_s (by omega), hFFa]; exact hSBF _ _ _ _ _ _ hsb2)
          · omega
  refine jsub [2, 3, 4, 1, 0] rfl ?_
  refine L_2 _ 0 (set2 (set2 mem 16 u k) 18 u (mem 15 k)) ?_ ?_ ?_ ?_ ?_ ?_ ?_ ?_ (Nat.lt_succ_self _)
  · exact (HR.s (HR.s hR (by omega)) (by omega))
  · omega
  · exact (FSC.s _ _ (by decide)).tr (FSC.s _ _ (by decide))
  · exact hrs
  · (intro j h1 h2; have w := htr j h1 h2; refine ⟨?_, w.2.1, ?_⟩; (rw [s2_a (by decide), s2_k (by omega)]; exact w.1); (rw [s2_k (by omega), s2_a (by decide)]; exact w.2.2))
  · exact ⟨by rw [s2_a (by decide), ← hu, s2_s], by rw [← hu, s2_s, hrs]⟩
  · exact hst.of (fun a j q1 q2 q3 q4 => by rw [s2_a q4, s2_a q2])
  · exact hsb
set_option maxHeartbeats 4000000 in
set_option maxRecDepth 100000 in
theorem c_sk1 {l : Launch} {g : GP} (hG : GH g) {kd : Int → Nat} {ln : Int → Int} {mem : Int → Int → Int} {sz : Nat} (hK : HK kd ln) (hR : HR mem) (u n : Int) (rs : Int → Int) (tl : Int → Int) (tc : Int → Int) (ta : Int → Int) (S : ST) (hu : u = 1) (hni : 0 ≤ n ∧ n ≤ mem 14 7) (hN : mem 14 7 ≤ 40) (ho : 0 ≤ mem 14 8 ∧ mem 14 8 ≤ 4) (hrs : mem 15 = rs) (htr : TRC mem 1 tl tc ta) (hst : SKP mem S) (hsb : SBP S) (hbd : BRS (mem 14 7) n 44000000000 rs) : MT l g yX6_seek cX6_seek 4 none 7 0 0 [(2, 14), (0, u), (0, n)] kd ln mem sz (pMV (fun mem' => HR mem' ∧ (SKR mem mem' 1 3 rs n tl tc ta S)) kd ln sz) := by
  refine MT_of hG (by decide +kernel) (Nat.le_of_ble_eq_true rfl) (fun z hF hr hn => ?_)
  have hb1 := hsb.1
  have hb2 := hsb.2
  have h9 := hst.1
  have hrk := congrFun hrs
  have htr0 : TRC mem u tl tc ta := by rw [hu]; exact htr
  refine jblk hF [(.iload_n 2, 1), (.istore_n 3, 1)] (by decide +kernel) (pc' := 2) (lo' := [(3, (0, n)), (0, (2, 14)), (1, (0, u)), (2, (0, n))]) (st' := []) rfl ?_
  have L_2 : ∀ (fu_3 : Nat) (k : Int), (n ≤ k ∧ k ≤ mem 14 7) → (skipN rs n (mem 14 7 - n).toNat = skipN rs k (mem 14 7 - k).toNat) →  (mem 14 7 - k).toNat < fu_3 → J z g 4 0 0 (QM z g 0 0 (pMV (fun mem' => HR mem' ∧ (SKR mem mem' 1 3 rs n tl tc ta S)) kd ln sz)) 2 [(0, (2, 14)), (1, (0, u)), (2, (0, n)), (3, (0, k))] [] kd ln mem sz := by
    intro fu_3
    induction fu_3 with
    | zero => intro k _ _ hm; omega
    | succ fu_3 ih_1 =>
      intro k hk hsk hm
      refine jblk hF [(.iload_n 3, 1)] (by decide +kernel) (pc' := 3) (lo' := [(0, (2, 14)), (1, (0, u)), (2, (0, n)), (3, (0, k))]) (st' := [(0, k)]) rfl ?_
      refine jblk hF [(.aload_n 0, 1)] (by decide +kernel) (pc' := 4) (lo' := [(0, (2, 14)), (1, (0, u)), (2, (0, n)), (3, (0, k))]) (st' := [(2, 14), (0, k)]) rfl ?_
      refine jget hF 7 7 0 7 rfl (by decide) (by decide) rfl wd_227 (by decide +kernel) (by exact hK.k14) ?_
      refine jicmp_ge hF (off := 20) 27 (by decide +kernel) (by decide) (by omega) (by omega) (fun h_4 => ?_) (fun h_4 => ?_)
      · refine jblk hF [(.iload_n 3, 1), (.aload_n 0, 1)] (by decide +kernel) (pc' := 29) (lo' := [(0, (2, 14)), (1, (0, u)), (2, (0, n)), (3, (0, k))]) (st' := [(2, 14), (0, k)]) rfl ?_
        refine jget hF 7 7 0 7 rfl (by decide) (by decide) rfl wd_227 (by decide +kernel) (by exact hK.k14) ?_
        refine jicmp_lt hF (off := 9) 41 (by decide +kernel) (by decide) (by omega) (by omega) (fun h_5 => ?_) (fun h_5 => ?_)
        · exfalso; omega
        · refine jblk hF [(.aload_n 0, 1), (.iload_n 1, 1)] (by decide +kernel) (pc' := 37) (lo' := [(0, (2, 14)), (1, (0, u)), (2, (0, n)), (3, (0, k))]) (st' := [(0, u), (2, 14)]) rfl ?_
          refine jcallV hF (c_X6_keep hG hK hR u (by exact tl) (by exact tc) (by exact ta) (by exact S) (by omega) (by exact htr0) (by assumption) (by assumption)) MW_X6_keep 7 (by decide) (by exact hK.k14) wd_1065 wd_1067 wd_p33 (by decide +kernel) [] rfl rfl (by decide) (Nat.le_of_ble_eq_true rfl) (by decide) (kMV (fun m_6 h_7 => ?_))
          obtain ⟨hR_m_6, h_7⟩ := h_7
          have hkp := h_7
          refine jvret hF hr (by decide +kernel) ?_
          exact lMV ⟨hR_m_6, by (have hsT : skipN rs n (mem 14 7 - n).toNat = mem 14 7 := (by rw [hsk, show k = mem 14 7 by omega]; exact skip_n); unfold SKR; rw [seekPT (u := 1) (by decide) hsT, ← hu]; exact ⟨hkp.1, hkp.2.1.1, htr0.of hkp.2.1.2, hkp.2.2⟩)⟩
      · refine jblk hF [(.aload_n 0, 1)] (by decide +kernel) (pc' := 11) (lo' := [(0, (2, 14)), (1, (0, u)), (2, (0, n)), (3, (0, k))]) (st' := [(2, 14)]) rfl ?_
        refine jget hF 7 0 2 0 rfl (by decide) (by decide) rfl wd_217 (by decide +kernel) (by exact hK.k14) ?_
        rw [HR.r14_0 hR]
        refine jblk hF [(.iload_n 3, 1)] (by decide +kernel) (pc' := 15) (lo' := [(0, (2, 14)), (1, (0, u)), (2, (0, n)), (3, (0, k))]) (st' := [(0, k), (2, 15)]) rfl ?_
        refine jlald hF (by decide +kernel) (by exact hK.k15) (by omega) (by have := hK.l15; omega) ?_
        refine jlconst hF (n := 0) 0 rfl (by decide +kernel) ?_
        refine jlcmpW_ne hF (off := 9) 27 (by decide +kernel) (by decide +kernel) (by decide) (fun h_8 => ?_) (fun h_8 => ?_)
        · refine jblk hF [(.iload_n 3, 1), (.aload_n 0, 1)] (by decide +kernel) (pc' := 29) (lo' := [(0, (2, 14)), (1, (0, u)), (2, (0, n)), (3, (0, k))]) (st' := [(2, 14), (0, k)]) rfl ?_
          refine jget hF 7 7 0 7 rfl (by decide) (by decide) rfl wd_227 (by decide +kernel) (by exact hK.k14) ?_
          refine jicmp_lt hF (off := 9) 41 (by decide +kernel) (by decide) (by omega) (by omega) (fun h_9 => ?_) (fun h_9 => ?_)
          · refine jblk hF [(.iload_n 1, 1)] (by decide +kernel) (pc' := 42) (lo' := [(0, (2, 14)), (1, (0, u)), (2, (0, n)), (3, (0, k))]) (st' := [(0, u)]) rfl ?_
            have hske : skipN rs n (mem 14 7 - n).toNat = k := by rw [hsk]; exact skip_e (by omega) (by rw [← hrs]; assumption)
            have hbk := hbd k (by omega) (by omega)
            refine jblk hF [(.iconst 4, 1)] (by decide +kernel) (pc' := 43) (lo' := [(0, (2, 14)), (1, (0, u)), (2, (0, n)), (3, (0, k))]) (st' := [(0, 4), (0, u)]) rfl ?_
            refine jicmp_ge hF (off := 11) 54 (by decide +kernel) (by decide) (by omega) (by decide) (fun h_10 => ?_) (fun h_10 => ?_)
            · refine jvret hF hr (by decide +kernel) ?_
              exact lMV ⟨hR, by (unfold SKR; rw [seekPZ (u := 1) (by decide) (by rw [hske]; omega) (by omega)]; exact ⟨FSC.rf, rfl, htr, hst⟩)⟩
            · refine jblk hF [(.iload_n 1, 1), (.aload_n 0, 1)] (by decide +kernel) (pc' := 48) (lo' := [(0, (2, 14)), (1, (0, u)), (2, (0, n)), (3, (0, k))]) (st' := [(2, 14), (0, u)]) rfl ?_
              refine jget hF 7 9 0 9 rfl (by decide) (by decide) rfl wd_229 (by decide +kernel) (by exact hK.k14) ?_
              refine jicmp_lt hF (off := 4) 55 (by decide +kernel) (by decide) (by omega) (by omega) (fun h_11 => ?_) (fun h_11 => ?_)
              · refine jblk hF [(.aload_n 0, 1), (.iload_n 1, 1), (.iload_n 3, 1)] (by decide +kernel) (pc' := 58) (lo' := [(0, (2, 14)), (1, (0, u)), (2, (0, n)), (3, (0, k))]) (st' := [(0, k), (0, u), (2, 14)]) rfl ?_
                refine jcallV hF (c_bl1 hG hK hR u k (by exact rs) (by exact tl) (by exact tc) (by exact ta) (by exact S) (by omega) (by omega) (by omega) (by omega) (by exact hrs) (by exact htr) (by exact hst) (by exact hsb) (by exact hbd.le (by omega))) MW_X6_blame 7 (by decide) (by exact hK.k14) wd_1069 wd_1071 wd_p34 (by decide +kernel) [] rfl rfl (by decide) (Nat.le_of_ble_eq_true rfl) (by decide) (kMV (fun m_12 h_13 => ?_))
                obtain ⟨hR_m_12, h_13⟩ := h_13
                have hbl := h_13
                refine jvret hF hr (by decide +kernel) ?_
                exact lMV ⟨hR_m_12, by (unfold SKR; rw [show (3 : Nat) = 2 + 1 from rfl, seekPL (u := 1) (by decide) hske (by omega) (by omega)]; exact hbl)⟩
              · refine jvret hF hr (by decide +kernel) ?_
                exact lMV ⟨hR, by (unfold SKR; rw [seekPZ (u := 1) (by decide) (by rw [hske]; omega) (by omega)]; exact ⟨FSC.rf, rfl, htr, hst⟩)⟩
          · exfalso; omega
        · refine jblk hF [(.iinc 3 1, 3)] (by decide +kernel) (pc' := 24) (lo' := [(3, (0, k + 1)), (0, (2, 14)), (1, (0, u)), (2, (0, n))]) (st' := []) rfl ?_
          refine jgoto hF (off := (-22)) 2 (by decide +kernel) (by decide) ?_
          refine jsub [1, 2, 3, 0] rfl ?_
          refine ih_1 (k + 1) ?_ ?_ ?_
          · omega
          · (rw [hsk]; exact skip_s (by omega) (by rw [← hrs]; assumption))
          · omega
  refine jsub [1, 2, 3, 0] rfl ?_
  refine L_2 _ n ?_ ?_ (Nat.lt_succ_self _)
  · omega
  · rfl
set_option maxHeartbeats 4000000 in
set_option maxRecDepth 100000 in
theorem c_bl0 {l : Launch} {g : GP} (hG : GH g) {kd : Int → Nat} {ln : Int → Int} {mem : Int → Int → Int} {sz : Nat} (hK : HK kd ln) (hR : HR mem) (u k : Int) (rs : Int → Int) (tl : Int → Int) (tc : Int → Int) (ta : Int → Int) (S : ST) (hu : u = 0) (hni : 0 ≤ k ∧ k < mem 14 7) (hN : mem 14 7 ≤ 40) (ho : 0 ≤ mem 14 8 ∧ mem 14 8 ≤ 4) (hrs : mem 15 = rs) (htr : TRC mem 0 tl tc ta) (hst : SKP mem S) (hsb : SBP S) (hbd : BRS (mem 14 7) k 4000000000 rs) : MT l g yX6_blame cX6_blame 8 none 8 0 0 [(2, 14), (0, u), (0, k)] kd ln mem sz (pMV (fun mem' => HR mem' ∧ (FSC mem mem' ∧ mem' 15 = mem 15 ∧ TRC mem' 0 tl tc ta ∧ SKP mem' (foldC (fun c => seekP (mem 14 7) (mem 14 8) 3 (markJ (mem 14 7) rs k (tmC (mem 14 8) c) (-(rs k)) (tmC (mem 14 8) c + 1)) (k + 1) (upI tl 0 k) (upI tc 0 (coC (mem 14 8) c)) (upI ta 0 (rs k))) (mem 14 8 + 1).toNat S))) kd ln sz) := by
  refine MT_of hG (by decide +kernel) (Nat.le_of_ble_eq_true rfl) (fun z hF hr hn => ?_)
  have hb1 := hsb.1
  have hb2 := hsb.2
  have h9 := hst.1
  have hrk := congrFun hrs
  have htr0 : TRC mem u tl tc ta := by rw [hu]; exact htr
  have hbk := hbd k (by omega) (by omega)
  obtain ⟨FF, hFF⟩ : ∃ FF : Int → ST → ST, FF = (fun c => seekP (mem 14 7) (mem 14 8) 3 (markJ (mem 14 7) rs k (tmC (mem 14 8) c) (-(rs k)) (tmC (mem 14 8) c + 1)) (k + 1) (upI tl 0 k) (upI tc 0 (coC (mem 14 8) c)) (upI ta 0 (rs k))) := ⟨_, rfl⟩
  have hFFa := fun (c9 : Int) (S9 : ST) => congrFun (congrFun hFF c9) S9
  have hSBF := fun (rs : Int → Int) (i : Int) (tl tc ta : Int → Int) (S : ST) (h : SBP S) => seekP_bd (N := mem 14 7) (o := mem 14 8) 3 (by decide) rs i tl tc ta S h
  have hrk0 : mem 15 k = rs k := hrk k
  refine jblk hF [(.aload_n 0, 1)] (by decide +kernel) (pc' := 1) (lo' := [(0, (2, 14)), (1, (0, u)), (2, (0, k))]) (st' := [(2, 14)]) rfl ?_
  refine jget hF 7 0 2 0 rfl (by decide) (by decide) rfl wd_217 (by decide +kernel) (by exact hK.k14) ?_
  rw [HR.r14_0 hR]
  refine jblk hF [(.iload_n 2, 1)] (by decide +kernel) (pc' := 5) (lo' := [(0, (2, 14)), (1, (0, u)), (2, (0, k))]) (st' := [(0, k), (2, 15)]) rfl ?_
  refine jlald hF (by decide +kernel) (by exact hK.k15) (by omega) (by have := hK.l15; omega) ?_
  refine jblk hF [(.lstore_n 3, 1), (.aload_n 0, 1)] (by decide +kernel) (pc' := 8) (lo' := [(3, (1, mem 15 k)), (0, (2, 14)), (1, (0, u)), (2, (0, k))]) (st' := [(2, 14)]) rfl ?_
  refine jget hF 7 1 2 1 rfl (by decide) (by decide) rfl wd_218 (by decide +kernel) (by exact hK.k14) ?_
  rw [HR.r14_1 hR]
  refine jblk hF [(.iload_n 1, 1), (.iload_n 2, 1)] (by decide +kernel) (pc' := 13) (lo' := [(3, (1, mem 15 k)), (0, (2, 14)), (1, (0, u)), (2, (0, k))]) (st' := [(0, k), (0, u), (2, 16)]) rfl ?_
  refine jiast hF (by decide +kernel) (by decide) (by exact hK.k16) (by omega) (by have := hK.l16; omega) ?_
  refine jblk hF [(.aload_n 0, 1)] (by decide +kernel) (pc' := 15) (lo' := [(3, (1, mem 15 k)), (0, (2, 14)), (1, (0, u)), (2, (0, k))]) (st' := [(2, 14)]) rfl ?_
  refine jget hF 7 3 2 3 rfl (by decide) (by decide) rfl wd_220 (by decide +kernel) (by exact hK.k14) ?_
  rw [HR.r14_3 (HR.s hR (by omega))]
  refine jblk hF [(.iload_n 1, 1), (.lload_n 3, 1)] (by decide +kernel) (pc' := 20) (lo' := [(3, (1, mem 15 k)), (0, (2, 14)), (1, (0, u)), (2, (0, k))]) (st' := [(1, mem 15 k), (0, u), (2, 18)]) rfl ?_
  refine jlast hF (by decide +kernel) (by decide) (by exact hK.k18) (by omega) (by have := hK.l18; omega) ?_
  refine jblk hF [(.iconst 0, 1), (.istore 5, 2)] (by decide +kernel) (pc' := 24) (lo' := [(5, (0, 0)), (3, (1, mem 15 k)), (0, (2, 14)), (1, (0, u)), (2, (0, k))]) (st' := []) rfl ?_
  have L_2 : ∀ (fu_3 : Nat) (c : Int) (m2 : Int → Int → Int), (HR m2) → (0 ≤ c ∧ c ≤ mem 14 8 + 1) → (FSC mem m2) → (m2 15 = rs) → (TRC m2 0 tl tc ta) → (m2 16 0 = k ∧ m2 18 0 = rs k) → (SKP m2 (foldC FF c.toNat S)) → (SBP (foldC FF c.toNat S)) →  (mem 14 8 + 1 - c).toNat < fu_3 → J z g 8 0 0 (QM z g 0 0 (pMV (fun mem' => HR mem' ∧ (FSC mem mem' ∧ mem' 15 = mem 15 ∧ TRC mem' 0 tl tc ta ∧ SKP mem' (foldC (fun c => seekP (mem 14 7) (mem 14 8) 3 (markJ (mem 14 7) rs k (tmC (mem 14 8) c) (-(rs k)) (tmC (mem 14 8) c + 1)) (k + 1) (upI tl 0 k) (upI tc 0 (coC (mem 14 8) c)) (upI ta 0 (rs k))) (mem 14 8 + 1).toNat S))) kd ln sz)) 24 [(0, (2, 14)), (1, (0, u)), (2, (0, k)), (3, (1, mem 15 k)), (5, (0, c))] [] kd ln m2 sz := by
    intro fu_3
    induction fu_3 with
    | zero => intro c m2 _ _ _ _ _ _ _ _ hm; omega
    | succ fu_3 ih_1 =>
      intro c m2 hR_m2 hc hfs2 hz15 htr2 h16 hst2 hsb2 hm2
      have f7 : m2 14 7 = mem 14 7 := hfs2 14 7 (by decide) (by decide)
      have f8 : m2 14 8 = mem 14 8 := hfs2 14 8 (by decide) (by decide)
      have hu5 : 0 ≤ u ∧ u < 4 := by omega
      refine jblk hF [(.iload 5, 2), (.aload_n 0, 1)] (by decide +kernel) (pc' := 27) (lo' := [(0, (2, 14)), (1, (0, u)), (2, (0, k)), (3, (1, mem 15 k)), (5, (0, c))]) (st' := [(2, 14), (0, c)]) rfl ?_
      refine jget hF 7 8 0 8 rfl (by decide) (by decide) rfl wd_228 (by decide +kernel) (by exact hK.k14) ?_
      refine jicmp_gt hF (off := 93) 123 (by decide +kernel) (by decide) (by omega) (by omega) (fun h_4 => ?_) (fun h_4 => ?_)
      · refine jvret hF hr (by decide +kernel) ?_
        exact lMV ⟨hR_m2, by (rw [← hFF, show (mem 14 8 + 1).toNat = c.toNat by omega]; exact ⟨hfs2, hz15.trans hrs.symm, htr2, hst2⟩)⟩
      · refine jblk hF [(.iload 5, 2), (.aload_n 0, 1)] (by decide +kernel) (pc' := 36) (lo' := [(0, (2, 14)), (1, (0, u)), (2, (0, k)), (3, (1, mem 15 k)), (5, (0, c))]) (st' := [(2, 14), (0, c)]) rfl ?_
        refine jget hF 7 8 0 8 rfl (by decide) (by decide) rfl wd_228 (by decide +kernel) (by exact hK.k14) ?_
        refine jicmp_ne hF (off := 7) 46 (by decide +kernel) (by decide) (by omega) (by omega) (fun h_5 => ?_) (fun h_5 => ?_)
        · refine jblk hF [(.iconst 0, 1), (.istore 6, 2), (.aload_n 0, 1)] (by decide +kernel) (pc' := 50) (lo' := [(6, (0, 0)), (0, (2, 14)), (1, (0, u)), (2, (0, k)), (3, (1, mem 15 k)), (5, (0, c))]) (st' := [(2, 14)]) rfl ?_
          refine jget hF 7 2 2 2 rfl (by decide) (by decide) rfl wd_219 (by decide +kernel) (by exact hK.k14) ?_
          rw [HR.r14_2 hR_m2]
          refine jblk hF [(.iload_n 1, 1), (.iload 6, 2)] (by decide +kernel) (pc' := 56) (lo' := [(6, (0, 0)), (0, (2, 14)), (1, (0, u)), (2, (0, k)), (3, (1, mem 15 k)), (5, (0, c))]) (st' := [(0, 0), (0, u), (2, 17)]) rfl ?_
          refine jif_eq hF (off := 8) 64 (by decide +kernel) (by decide) (by decide) (fun _ => ?_) (fun h => absurd h (by decide))
          refine jblk hF [(.iload 5, 2)] (by decide +kernel) (pc' := 66) (lo' := [(6, (0, 0)), (0, (2, 14)), (1, (0, u)), (2, (0, k)), (3, (1, mem 15 k)), (5, (0, c))]) (st' := [(0, c), (0, u), (2, 17)]) rfl ?_
          have hCo : c = coC (mem 14 8) c := by unfold coC; first | exact (if_pos (by omega)).symm | exact (if_neg (by omega)).symm
          refine jiast hF (by decide +kernel) (by decide) (by exact hK.k17) (by omega) (by have := hK.l17; omega) ?_
          refine jblk hF [(.iload 6, 2)] (by decide +kernel) (pc' := 69) (lo' := [(6, (0, 0)), (0, (2, 14)), (1, (0, u)), (2, (0, k)), (3, (1, mem 15 k)), (5, (0, c))]) (st' := [(0, 0)]) rfl ?_
          refine jif_eq hF (off := 12) 81 (by decide +kernel) (by decide) (by decide) (fun _ => ?_) (fun h => absurd h (by decide))
          refine jblk hF [(.aload_n 0, 1)] (by decide +kernel) (pc' := 82) (lo' := [(6, (0, 0)), (0, (2, 14)), (1, (0, u)), (2, (0, k)), (3, (1, mem 15 k)), (5, (0, c))]) (st' := [(2, 14)]) rfl ?_
          refine jget hF 7 8 0 8 rfl (by decide) (by decide) rfl wd_228 (by decide +kernel) (by exact hK.k14) ?_
          rw [show (set2 m2 17 u c) 14 8 = m2 14 8 from (s2_a (by decide))]
          refine jblk hF [(.iload 5, 2), (.isub, 1), (.istore 7, 2)] (by decide +kernel) (pc' := 90) (lo' := [(7, (0, (m2 14 8) - c)), (6, (0, 0)), (0, (2, 14)), (1, (0, u)), (2, (0, k)), (3, (1, mem 15 k)), (5, (0, c))]) (st' := []) rfl ?_
          have hT : ((m2 14 8) - c) = tmC (mem 14 8) c := by unfold tmC; first | (rw [if_pos (by omega)]; omega) | (rw [if_neg (by omega)]; omega)
          have hT5 : 0 ≤ tmC (mem 14 8) c ∧ tmC (mem 14 8) c ≤ 5 := by omega
          have g7b : (set2 m2 17 u c) 14 7 = mem 14 7 := (s2_a (by decide)).trans f7
          have e15 : (set2 m2 17 u c) 15 = m2 15 := funext fun j => s2_a (by decide)
          refine jblk hF [(.aload_n 0, 1), (.iload_n 2, 1), (.iload 7, 2), (.lload_n 3, 1), (.lneg, 1)] (by decide +kernel) (pc' := 96) (lo' := [(7, (0, (m2 14 8) - c)), (6, (0, 0)), (0, (2, 14)), (1, (0, u)), (2, (0, k)), (3, (1, mem 15 k)), (5, (0, c))]) (st' := [(1, -(mem 15 k)), (0, (m2 14 8) - c), (0, k), (2, 14)]) rfl ?_
          refine jcallV hF (c_X6_addTo hG hK (HR.s hR_m2 (by omega)) k ((m2 14 8) - c) (-(mem 15 k)) (by omega) (by omega) (by omega)) MW_X6_addTo 7 (by decide) (by exact hK.k14) wd_1073 wd_1075 wd_p35 (by decide +kernel) [] rfl rfl (by decide) (Nat.le_of_ble_eq_true rfl) (by decide) (kMV (fun m_8 h_9 => ?_))
          obtain ⟨hR_m_8, h_9⟩ := h_9
          have hb9 := h_9.1
          have hx9 := h_9.2
          refine jblk hF [(.aload_n 0, 1), (.iload_n 1, 1), (.iconst 1, 1), (.iadd, 1), (.iload_n 2, 1), (.iconst 1, 1), (.iadd, 1)] (by decide +kernel) (pc' := 106) (lo' := [(7, (0, (m2 14 8) - c)), (6, (0, 0)), (0, (2, 14)), (1, (0, u)), (2, (0, k)), (3, (1, mem 15 k)), (5, (0, c))]) (st' := [(0, k + 1), (0, u + 1), (2, 14)]) rfl ?_
          have hfs9 : FSC mem m_8 := (hfs2.tr (FSC.s _ _ (by decide))).tr (FSC.of15 hb9)
          have g7 : m_8 14 7 = mem 14 7 := hfs9 14 7 (by decide) (by decide)
          have g8 : m_8 14 8 = mem 14 8 := hfs9 14 8 (by decide) (by decide)
          have hrs9 : m_8 15 = markJ (mem 14 7) rs k (tmC (mem 14 8) c) (-(rs k)) (tmC (mem 14 8) c + 1) := by
            funext x
            rw [hx9 x, hT, g7b, e15, hz15, hrk0]
          have htr9 : TRC m_8 1 (upI tl 0 k) (upI tc 0 (coC (mem 14 8) c)) (upI ta 0 (rs k)) := trc_up htr2 (fun j q1 => by rw [hb9 16 j (by decide), s2_a (by decide)]) (fun j q1 => by rw [hb9 17 j (by decide)]; exact s2_k (by omega)) (fun j q1 => by rw [hb9 18 j (by decide), s2_a (by decide)]) (by rw [hb9 16 _ (by decide), s2_a (by decide)]; exact h16.1) (by rw [hb9 17 _ (by decide), ← hCo, ← hu]; exact s2_s) (by rw [hb9 18 _ (by decide), s2_a (by decide)]; exact h16.2)
          have hst9 : SKP m_8 (foldC FF c.toNat S) := hst2.of (fun a j q1 q2 q3 q4 => by rw [hb9 a j q1, s2_a q3])
          refine jcallV hF (c_sk1 hG hK hR_m_8 (u + 1) (k + 1) (by exact (markJ (mem 14 7) rs k (tmC (mem 14 8) c) (-(rs k)) (tmC (mem 14 8) c + 1))) (by exact (upI tl 0 k)) (by exact (upI tc 0 (coC (mem 14 8) c))) (by exact (upI ta 0 (rs k))) (by exact (foldC FF c.toNat S)) (by omega) (by rw [g7]; omega) (by rw [g7]; omega) (by rw [g8]; omega) (by exact hrs9) (by exact htr9) (by exact hst9) (by exact hsb2) (by rw [g7]; exact hbd.mark ⟨by omega, by omega⟩ hT5 (by decide))) MW_X6_seek 7 (by decide) (by exact hK.k14) wd_1061 wd_1063 wd_p32 (by decide +kernel) [] rfl rfl (by decide) (Nat.le_of_ble_eq_true rfl) (by decide) (kMV (fun m_10 h_11 => ?_))
          obtain ⟨hR_m_10, h_11⟩ := h_11
          obtain ⟨hfs8, hz8, htr8, hst8⟩ := h_11
          rw [g7, g8] at hst8
          have i7 : m_10 14 7 = mem 14 7 := (hfs9.tr hfs8) 14 7 (by decide) (by decide)
          refine jblk hF [(.aload_n 0, 1), (.iload_n 2, 1), (.iload 7, 2), (.lload_n 3, 1)] (by decide +kernel) (pc' := 114) (lo' := [(7, (0, (m2 14 8) - c)), (6, (0, 0)), (0, (2, 14)), (1, (0, u)), (2, (0, k)), (3, (1, mem 15 k)), (5, (0, c))]) (st' := [(1, mem 15 k), (0, (m2 14 8) - c), (0, k), (2, 14)]) rfl ?_
          refine jcallV hF (c_X6_addTo hG hK hR_m_10 k ((m2 14 8) - c) (mem 15 k) (by omega) (by omega) (by omega)) MW_X6_addTo 7 (by decide) (by exact hK.k14) wd_1073 wd_1075 wd_p35 (by decide +kernel) [] rfl rfl (by decide) (Nat.le_of_ble_eq_true rfl) (by decide) (kMV (fun m_12 h_13 => ?_))
          obtain ⟨hR_m_12, h_13⟩ := h_13
          have hfs3 : FSC mem m_12 := (hfs9.tr hfs8).tr (FSC.of15 h_13.1)
          have hz3 : m_12 15 = rs := by
            funext x
            rw [h_13.2 x, hT, i7, hz8, hrs9, hrk0]
            exact markJ_back x
          have htr3 := trc_dn (u := 0) (m := m_12) (htr8.of ⟨funext fun j => h_13.1 16 j (by decide), funext fun j => h_13.1 17 j (by decide), funext fun j => h_13.1 18 j (by decide)⟩) (by decide)
          have hst3 : SKP m_12 (FF c (foldC FF c.toNat S)) := by rw [hFFa]; exact hst8.of (fun a j q1 _ _ _ => h_13.1 a j q1)
          refine jblk hF [(.iinc 5 1, 3)] (by decide +kernel) (pc' := 120) (lo' := [(5, (0, c + 1)), (7, (0, (m2 14 8) - c)), (6, (0, 0)), (0, (2, 14)), (1, (0, u)), (2, (0, k)), (3, (1, mem 15 k))]) (st' := []) rfl ?_
          refine jgoto hF (off := (-96)) 24 (by decide +kernel) (by decide) ?_
          refine jsub [3, 4, 5, 6, 0] rfl ?_
          refine ih_1 (c + 1) m_12 ?_ ?_ ?_ ?_ ?_ ?_ ?_ ?_ ?_
          · exact hR_m_12
          · omega
          · exact hfs3
          · exact hz3
          · exact htr3.1
          · exact ⟨htr3.2.1, htr3.2.2⟩
          · (rw [foldC_s (by omega)]; exact hst3)
          · (rw [foldC_s (by omega), hFFa]; exact hSBF _ _ _ _ _ _ hsb2)
          · omega
        · refine jblk hF [(.iconst 1, 1)] (by decide +kernel) (pc' := 43) (lo' := [(0, (2, 14)), (1, (0, u)), (2, (0, k)), (3, (1, mem 15 k)), (5, (0, c))]) (st' := [(0, 1)]) rfl ?_
          refine jgoto hF (off := 4) 47 (by decide +kernel) (by decide) ?_
          refine jblk hF [(.istore 6, 2), (.aload_n 0, 1)] (by decide +kernel) (pc' := 50) (lo' := [(6, (0, 1)), (0, (2, 14)), (1, (0, u)), (2, (0, k)), (3, (1, mem 15 k)), (5, (0, c))]) (st' := [(2, 14)]) rfl ?_
          refine jget hF 7 2 2 2 rfl (by decide) (by decide) rfl wd_219 (by decide +kernel) (by exact hK.k14) ?_
          rw [HR.r14_2 hR_m2]
          refine jblk hF [(.iload_n 1, 1), (.iload 6, 2)] (by decide +kernel) (pc' := 56) (lo' := [(6, (0, 1)), (0, (2, 14)), (1, (0, u)), (2, (0, k)), (3, (1, mem 15 k)), (5, (0, c))]) (st' := [(0, 1), (0, u), (2, 17)]) rfl ?_
          refine jif_eq hF (off := 8) 64 (by decide +kernel) (by decide) (by decide) (fun h => absurd h (by decide)) (fun _ => ?_)
          refine jblk hF [(.bipush 9, 2)] (by decide +kernel) (pc' := 61) (lo' := [(6, (0, 1)), (0, (2, 14)), (1, (0, u)), (2, (0, k)), (3, (1, mem 15 k)), (5, (0, c))]) (st' := [(0, 9), (0, u), (2, 17)]) rfl ?_
          refine jgoto hF (off := 5) 66 (by decide +kernel) (by decide) ?_
          have hCo : 9 = coC (mem 14 8) c := by unfold coC; first | exact (if_pos (by omega)).symm | exact (if_neg (by omega)).symm
          refine jiast hF (by decide +kernel) (by decide) (by exact hK.k17) (by omega) (by have := hK.l17; omega) ?_
          refine jblk hF [(.iload 6, 2)] (by decide +kernel) (pc' := 69) (lo' := [(6, (0, 1)), (0, (2, 14)), (1, (0, u)), (2, (0, k)), (3, (1, mem 15 k)), (5, (0, c))]) (st' := [(0, 1)]) rfl ?_
          refine jif_eq hF (off := 12) 81 (by decide +kernel) (by decide) (by decide) (fun h => absurd h (by decide)) (fun _ => ?_)
          refine jblk hF [(.aload_n 0, 1)] (by decide +kernel) (pc' := 73) (lo' := [(6, (0, 1)), (0, (2, 14)), (1, (0, u)), (2, (0, k)), (3, (1, mem 15 k)), (5, (0, c))]) (st' := [(2, 14)]) rfl ?_
          refine jget hF 7 8 0 8 rfl (by decide) (by decide) rfl wd_228 (by decide +kernel) (by exact hK.k14) ?_
          rw [show (set2 m2 17 u 9) 14 8 = m2 14 8 from (s2_a (by decide))]
          refine jblk hF [(.iconst 1, 1), (.iadd, 1)] (by decide +kernel) (pc' := 78) (lo' := [(6, (0, 1)), (0, (2, 14)), (1, (0, u)), (2, (0, k)), (3, (1, mem 15 k)), (5, (0, c))]) (st' := [(0, (m2 14 8) + 1)]) rfl ?_
          refine jgoto hF (off := 10) 88 (by decide +kernel) (by decide) ?_
          refine jblk hF [(.istore 7, 2)] (by decide +kernel) (pc' := 90) (lo' := [(7, (0, (m2 14 8) + 1)), (6, (0, 1)), (0, (2, 14)), (1, (0, u)), (2, (0, k)), (3, (1, mem 15 k)), (5, (0, c))]) (st' := []) rfl ?_
          have hT : ((m2 14 8) + 1) = tmC (mem 14 8) c := by unfold tmC; first | (rw [if_pos (by omega)]; omega) | (rw [if_neg (by omega)]; omega)
          have hT5 : 0 ≤ tmC (mem 14 8) c ∧ tmC (mem 14 8) c ≤ 5 := by omega
          have g7b : (set2 m2 17 u 9) 14 7 = mem 14 7 := (s2_a (by decide)).trans f7
          have e15 : (set2 m2 17 u 9) 15 = m2 15 := funext fun j => s2_a (by decide)
          refine jblk hF [(.aload_n 0, 1), (.iload_n 2, 1), (.iload 7, 2), (.lload_n 3, 1), (.lneg, 1)] (by decide +kernel) (pc' := 96) (lo' := [(7, (0, (m2 14 8) + 1)), (6, (0, 1)), (0, (2, 14)), (1, (0, u)), (2, (0, k)), (3, (1, mem 15 k)), (5, (0, c))]) (st' := [(1, -(mem 15 k)), (0, (m2 14 8) + 1), (0, k), (2, 14)]) rfl ?_
          refine jcallV hF (c_X6_addTo hG hK (HR.s hR_m2 (by omega)) k ((m2 14 8) + 1) (-(mem 15 k)) (by omega) (by omega) (by omega)) MW_X6_addTo 7 (by decide) (by exact hK.k14) wd_1073 wd_1075 wd_p35 (by decide +kernel) [] rfl rfl (by decide) (Nat.le_of_ble_eq_true rfl) (by decide) (kMV (fun m_16 h_17 => ?_))
          obtain ⟨hR_m_16, h_17⟩ := h_17
          have hb9 := h_17.1
          have hx9 := h_17.2
          refine jblk hF [(.aload_n 0, 1), (.iload_n 1, 1), (.iconst 1, 1), (.iadd, 1), (.iload_n 2, 1), (.iconst 1, 1), (.iadd, 1)] (by decide +kernel) (pc' := 106) (lo' := [(7, (0, (m2 14 8) + 1)), (6, (0, 1)), (0, (2, 14)), (1, (0, u)), (2, (0, k)), (3, (1, mem 15 k)), (5, (0, c))]) (st' := [(0, k + 1), (0, u + 1), (2, 14)]) rfl ?_
          have hfs9 : FSC mem m_16 := (hfs2.tr (FSC.s _ _ (by decide))).tr (FSC.of15 hb9)
          have g7 : m_16 14 7 = mem 14 7 := hfs9 14 7 (by decide) (by decide)
          have g8 : m_16 14 8 = mem 14 8 := hfs9 14 8 (by decide) (by decide)
          have hrs9 : m_16 15 = markJ (mem 14 7) rs k (tmC (mem 14 8) c) (-(rs k)) (tmC (mem 14 8) c + 1) := by
            funext x
            rw [hx9 x, hT, g7b, e15, hz15, hrk0]
          have htr9 : TRC m_16 1 (upI tl 0 k) (upI tc 0 (coC (mem 14 8) c)) (upI ta 0 (rs k)) := trc_up htr2 (fun j q1 => by rw [hb9 16 j (by decide), s2_a (by decide)]) (fun j q1 => by rw [hb9 17 j (by decide)]; exact s2_k (by omega)) (fun j q1 => by rw [hb9 18 j (by decide), s2_a (by decide)]) (by rw [hb9 16 _ (by decide), s2_a (by decide)]; exact h16.1) (by rw [hb9 17 _ (by decide), ← hCo, ← hu]; exact s2_s) (by rw [hb9 18 _ (by decide), s2_a (by decide)]; exact h16.2)
          have hst9 : SKP m_16 (foldC FF c.toNat S) := hst2.of (fun a j q1 q2 q3 q4 => by rw [hb9 a j q1, s2_a q3])
          refine jcallV hF (c_sk1 hG hK hR_m_16 (u + 1) (k + 1) (by exact (markJ (mem 14 7) rs k (tmC (mem 14 8) c) (-(rs k)) (tmC (mem 14 8) c + 1))) (by exact (upI tl 0 k)) (by exact (upI tc 0 (coC (mem 14 8) c))) (by exact (upI ta 0 (rs k))) (by exact (foldC FF c.toNat S)) (by omega) (by rw [g7]; omega) (by rw [g7]; omega) (by rw [g8]; omega) (by exact hrs9) (by exact htr9) (by exact hst9) (by exact hsb2) (by rw [g7]; exact hbd.mark ⟨by omega, by omega⟩ hT5 (by decide))) MW_X6_seek 7 (by decide) (by exact hK.k14) wd_1061 wd_1063 wd_p32 (by decide +kernel) [] rfl rfl (by decide) (Nat.le_of_ble_eq_true rfl) (by decide) (kMV (fun m_18 h_19 => ?_))
          obtain ⟨hR_m_18, h_19⟩ := h_19
          obtain ⟨hfs8, hz8, htr8, hst8⟩ := h_19
          rw [g7, g8] at hst8
          have i7 : m_18 14 7 = mem 14 7 := (hfs9.tr hfs8) 14 7 (by decide) (by decide)
          refine jblk hF [(.aload_n 0, 1), (.iload_n 2, 1), (.iload 7, 2), (.lload_n 3, 1)] (by decide +kernel) (pc' := 114) (lo' := [(7, (0, (m2 14 8) + 1)), (6, (0, 1)), (0, (2, 14)), (1, (0, u)), (2, (0, k)), (3, (1, mem 15 k)), (5, (0, c))]) (st' := [(1, mem 15 k), (0, (m2 14 8) + 1), (0, k), (2, 14)]) rfl ?_
          refine jcallV hF (c_X6_addTo hG hK hR_m_18 k ((m2 14 8) + 1) (mem 15 k) (by omega) (by omega) (by omega)) MW_X6_addTo 7 (by decide) (by exact hK.k14) wd_1073 wd_1075 wd_p35 (by decide +kernel) [] rfl rfl (by decide) (Nat.le_of_ble_eq_true rfl) (by decide) (kMV (fun m_20 h_21 => ?_))
          obtain ⟨hR_m_20, h_21⟩ := h_21
          have hfs3 : FSC mem m_20 := (hfs9.tr hfs8).tr (FSC.of15 h_21.1)
          have hz3 : m_20 15 = rs := by
            funext x
            rw [h_21.2 x, hT, i7, hz8, hrs9, hrk0]
            exact markJ_back x
          have htr3 := trc_dn (u := 0) (m := m_20) (htr8.of ⟨funext fun j => h_21.1 16 j (by decide), funext fun j => h_21.1 17 j (by decide), funext fun j => h_21.1 18 j (by decide)⟩) (by decide)
          have hst3 : SKP m_20 (FF c (foldC FF c.toNat S)) := by rw [hFFa]; exact hst8.of (fun a j q1 _ _ _ => h_21.1 a j q1)
          refine jblk hF [(.iinc 5 1, 3)] (by decide +kernel) (pc' := 120) (lo' := [(5, (0, c + 1)), (7, (0, (m2 14 8) + 1)), (6, (0, 1)), (0, (2, 14)), (1, (0, u)), (2, (0, k)), (3, (1, mem 15 k))]) (st' := []) rfl ?_
          refine jgoto hF (off := (-96)) 24 (by decide +kernel) (by decide) ?_
          refine jsub [3, 4, 5, 6, 0] rfl ?_
          refine ih_1 (c + 1) m_20 ?_ ?_ ?_ ?_ ?_ ?_ ?_ ?_ ?_
          · exact hR_m_20
          · omega
          · exact hfs3
          · exact hz3
          · exact htr3.1
          · exact ⟨htr3.2.1, htr3.2.2⟩
          · (rw [foldC_s (by omega)]; exact hst3)
          · (rw [foldC_s (by omega), hFFa]; exact hSBF _ _ _ _ _ _ hsb2)
          · omega
  refine jsub [2, 3, 4, 1, 0] rfl ?_
  refine L_2 _ 0 (set2 (set2 mem 16 u k) 18 u (mem 15 k)) ?_ ?_ ?_ ?_ ?_ ?_ ?_ ?_ (Nat.lt_succ_self _)
  · exact (HR.s (HR.s hR (by omega)) (by omega))
  · omega
  · exact (FSC.s _ _ (by decide)).tr (FSC.s _ _ (by decide))
  · exact hrs
  · (intro j h1 h2; have w := htr j h1 h2; refine ⟨?_, w.2.1, ?_⟩; (rw [s2_a (by decide), s2_k (by omega)]; exact w.1); (rw [s2_k (by omega), s2_a (by decide)]; exact w.2.2))
  · exact ⟨by rw [s2_a (by decide), ← hu, s2_s], by rw [← hu, s2_s, hrs]⟩
  · exact hst.of (fun a j q1 q2 q3 q4 => by rw [s2_a q4, s2_a q2])
  · exact hsb
set_option maxHeartbeats 4000000 in
set_option maxRecDepth 100000 in
theorem c_sk0 {l : Launch} {g : GP} (hG : GH g) {kd : Int → Nat} {ln : Int → Int} {mem : Int → Int → Int} {sz : Nat} (hK : HK kd ln) (hR : HR mem) (u n : Int) (rs : Int → Int) (tl : Int → Int) (tc : Int → Int) (ta : Int → Int) (S : ST) (hu : u = 0) (hni : 0 ≤ n ∧ n ≤ mem 14 7) (hN : mem 14 7 ≤ 40) (ho : 0 ≤ mem 14 8 ∧ mem 14 8 ≤ 4) (hrs : mem 15 = rs) (htr : TRC mem 0 tl tc ta) (hst : SKP mem S) (hsb : SBP S) (hbd : BRS (mem 14 7) n 4000000000 rs) : MT l g yX6_seek cX6_seek 4 none 9 0 0 [(2, 14), (0, u), (0, n)] kd ln mem sz (pMV (fun mem' => HR mem' ∧ (SKR mem mem' 0 4 rs n tl tc ta S)) kd ln sz) := by
  refine MT_of hG (by decide +kernel) (Nat.le_of_ble_eq_true rfl) (fun z hF hr hn => ?_)
  have hb1 := hsb.1
  have hb2 := hsb.2
  have h9 := hst.1
  have hrk := congrFun hrs
  have htr0 : TRC mem u tl tc ta := by rw [hu]; exact htr
  refine jblk hF [(.iload_n 2, 1), (.istore_n 3, 1)] (by decide +kernel) (pc' := 2) (lo' := [(3, (0, n)), (0, (2, 14)), (1, (0, u)), (2, (0, n))]) (st' := []) rfl ?_
  have L_2 : ∀ (fu_3 : Nat) (k : Int), (n ≤ k ∧ k ≤ mem 14 7) → (skipN rs n (mem 14 7 - n).toNat = skipN rs k (mem 14 7 - k).toNat) →  (mem 14 7 - k).toNat < fu_3 → J z g 4 0 0 (QM z g 0 0 (pMV (fun mem' => HR mem' ∧ (SKR mem mem' 0 4 rs n tl tc ta S)) kd ln sz)) 2 [(0, (2, 14)), (1, (0, u)), (2, (0, n)), (3, (0, k))] [] kd ln mem sz := by
    intro fu_3
    induction fu_3 with
    | zero => intro k _ _ hm; omega
    | succ fu_3 ih_1 =>
      intro k hk hsk hm
      refine jblk hF [(.iload_n 3, 1)] (by decide +kernel) (pc' := 3) (lo' := [(0, (2, 14)), (1, (0, u)), (2, (0, n)), (3, (0, k))]) (st' := [(0, k)]) rfl ?_
      refine jblk hF [(.aload_n 0, 1)] (by decide +kernel) (pc' := 4) (lo' := [(0, (2, 14)), (1, (0, u)), (2, (0, n)), (3, (0, k))]) (st' := [(2, 14), (0, k)]) rfl ?_
      refine jget hF 7 7 0 7 rfl (by decide) (by decide) rfl wd_227 (by decide +kernel) (by exact hK.k14) ?_
      refine jicmp_ge hF (off := 20) 27 (by decide +kernel) (by decide) (by omega) (by omega) (fun h_4 => ?_) (fun h_4 => ?_)
      · refine jblk hF [(.iload_n 3, 1), (.aload_n 0, 1)] (by decide +kernel) (pc' := 29) (lo' := [(0, (2, 14)), (1, (0, u)), (2, (0, n)), (3, (0, k))]) (st' := [(2, 14), (0, k)]) rfl ?_
        refine jget hF 7 7 0 7 rfl (by decide) (by decide) rfl wd_227 (by decide +kernel) (by exact hK.k14) ?_
        refine jicmp_lt hF (off := 9) 41 (by decide +kernel) (by decide) (by omega) (by omega) (fun h_5 => ?_) (fun h_5 => ?_)
        · exfalso; omega
        · refine jblk hF [(.aload_n 0, 1), (.iload_n 1, 1)] (by decide +kernel) (pc' := 37) (lo' := [(0, (2, 14)), (1, (0, u)), (2, (0, n)), (3, (0, k))]) (st' := [(0, u), (2, 14)]) rfl ?_
          refine jcallV hF (c_X6_keep hG hK hR u (by exact tl) (by exact tc) (by exact ta) (by exact S) (by omega) (by exact htr0) (by assumption) (by assumption)) MW_X6_keep 7 (by decide) (by exact hK.k14) wd_1065 wd_1067 wd_p33 (by decide +kernel) [] rfl rfl (by decide) (Nat.le_of_ble_eq_true rfl) (by decide) (kMV (fun m_6 h_7 => ?_))
          obtain ⟨hR_m_6, h_7⟩ := h_7
          have hkp := h_7
          refine jvret hF hr (by decide +kernel) ?_
          exact lMV ⟨hR_m_6, by (have hsT : skipN rs n (mem 14 7 - n).toNat = mem 14 7 := (by rw [hsk, show k = mem 14 7 by omega]; exact skip_n); unfold SKR; rw [seekPT (u := 0) (by decide) hsT, ← hu]; exact ⟨hkp.1, hkp.2.1.1, htr0.of hkp.2.1.2, hkp.2.2⟩)⟩
      · refine jblk hF [(.aload_n 0, 1)] (by decide +kernel) (pc' := 11) (lo' := [(0, (2, 14)), (1, (0, u)), (2, (0, n)), (3, (0, k))]) (st' := [(2, 14)]) rfl ?_
        refine jget hF 7 0 2 0 rfl (by decide) (by decide) rfl wd_217 (by decide +kernel) (by exact hK.k14) ?_
        rw [HR.r14_0 hR]
        refine jblk hF [(.iload_n 3, 1)] (by decide +kernel) (pc' := 15) (lo' := [(0, (2, 14)), (1, (0, u)), (2, (0, n)), (3, (0, k))]) (st' := [(0, k), (2, 15)]) rfl ?_
        refine jlald hF (by decide +kernel) (by exact hK.k15) (by omega) (by have := hK.l15; omega) ?_
        refine jlconst hF (n := 0) 0 rfl (by decide +kernel) ?_
        refine jlcmpW_ne hF (off := 9) 27 (by decide +kernel) (by decide +kernel) (by decide) (fun h_8 => ?_) (fun h_8 => ?_)
        · refine jblk hF [(.iload_n 3, 1), (.aload_n 0, 1)] (by decide +kernel) (pc' := 29) (lo' := [(0, (2, 14)), (1, (0, u)), (2, (0, n)), (3, (0, k))]) (st' := [(2, 14), (0, k)]) rfl ?_
          refine jget hF 7 7 0 7 rfl (by decide) (by decide) rfl wd_227 (by decide +kernel) (by exact hK.k14) ?_
          refine jicmp_lt hF (off := 9) 41 (by decide +kernel) (by decide) (by omega) (by omega) (fun h_9 => ?_) (fun h_9 => ?_)
          · refine jblk hF [(.iload_n 1, 1)] (by decide +kernel) (pc' := 42) (lo' := [(0, (2, 14)), (1, (0, u)), (2, (0, n)), (3, (0, k))]) (st' := [(0, u)]) rfl ?_
            have hske : skipN rs n (mem 14 7 - n).toNat = k := by rw [hsk]; exact skip_e (by omega) (by rw [← hrs]; assumption)
            have hbk := hbd k (by omega) (by omega)
            refine jblk hF [(.iconst 4, 1)] (by decide +kernel) (pc' := 43) (lo' := [(0, (2, 14)), (1, (0, u)), (2, (0, n)), (3, (0, k))]) (st' := [(0, 4), (0, u)]) rfl ?_
            refine jicmp_ge hF (off := 11) 54 (by decide +kernel) (by decide) (by omega) (by decide) (fun h_10 => ?_) (fun h_10 => ?_)
            · refine jvret hF hr (by decide +kernel) ?_
              exact lMV ⟨hR, by (unfold SKR; rw [seekPZ (u := 0) (by decide) (by rw [hske]; omega) (by omega)]; exact ⟨FSC.rf, rfl, htr, hst⟩)⟩
            · refine jblk hF [(.iload_n 1, 1), (.aload_n 0, 1)] (by decide +kernel) (pc' := 48) (lo' := [(0, (2, 14)), (1, (0, u)), (2, (0, n)), (3, (0, k))]) (st' := [(2, 14), (0, u)]) rfl ?_
              refine jget hF 7 9 0 9 rfl (by decide) (by decide) rfl wd_229 (by decide +kernel) (by exact hK.k14) ?_
              refine jicmp_lt hF (off := 4) 55 (by decide +kernel) (by decide) (by omega) (by omega) (fun h_11 => ?_) (fun h_11 => ?_)
              · refine jblk hF [(.aload_n 0, 1), (.iload_n 1, 1), (.iload_n 3, 1)] (by decide +kernel) (pc' := 58) (lo' := [(0, (2, 14)), (1, (0, u)), (2, (0, n)), (3, (0, k))]) (st' := [(0, k), (0, u), (2, 14)]) rfl ?_
                refine jcallV hF (c_bl0 hG hK hR u k (by exact rs) (by exact tl) (by exact tc) (by exact ta) (by exact S) (by omega) (by omega) (by omega) (by omega) (by exact hrs) (by exact htr) (by exact hst) (by exact hsb) (by exact hbd.le (by omega))) MW_X6_blame 7 (by decide) (by exact hK.k14) wd_1069 wd_1071 wd_p34 (by decide +kernel) [] rfl rfl (by decide) (Nat.le_of_ble_eq_true rfl) (by decide) (kMV (fun m_12 h_13 => ?_))
                obtain ⟨hR_m_12, h_13⟩ := h_13
                have hbl := h_13
                refine jvret hF hr (by decide +kernel) ?_
                exact lMV ⟨hR_m_12, by (unfold SKR; rw [show (4 : Nat) = 3 + 1 from rfl, seekPL (u := 0) (by decide) hske (by omega) (by omega)]; exact hbl)⟩
              · refine jvret hF hr (by decide +kernel) ?_
                exact lMV ⟨hR, by (unfold SKR; rw [seekPZ (u := 0) (by decide) (by rw [hske]; omega) (by omega)]; exact ⟨FSC.rf, rfl, htr, hst⟩)⟩
          · exfalso; omega
        · refine jblk hF [(.iinc 3 1, 3)] (by decide +kernel) (pc' := 24) (lo' := [(3, (0, k + 1)), (0, (2, 14)), (1, (0, u)), (2, (0, n))]) (st' := []) rfl ?_
          refine jgoto hF (off := (-22)) 2 (by decide +kernel) (by decide) ?_
          refine jsub [1, 2, 3, 0] rfl ?_
          refine ih_1 (k + 1) ?_ ?_ ?_
          · omega
          · (rw [hsk]; exact skip_s (by omega) (by rw [← hrs]; assumption))
          · omega
  refine jsub [1, 2, 3, 0] rfl ?_
  refine L_2 _ n ?_ ?_ (Nat.lt_succ_self _)
  · omega
  · rfl
end
