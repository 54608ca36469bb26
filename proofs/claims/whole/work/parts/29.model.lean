section
theorem sxN_s {mem : Int → Int → Int} {p q n v s : Int} (h : 0 ≤ s) : sxN mem p q n v (s + 1).toNat = (if sxN mem p q n v s.toNat ≠ 0 ∨ (mem 63 s = p ∧ mem 64 s = n ∧ cntS mem s q) then 1 else 0) := by
  rw [show (s + 1).toNat = s.toNat + 1 by omega, sxN, show ((s.toNat : Nat) : Int) = s by omega]
theorem hxN_s {mem : Int → Int → Int} {p q n : Int} (h : 0 ≤ n) : hxN mem p q (n + 1).toNat = sxN mem p q n (if hxN mem p q n.toNat ≠ 0 ∧ n % mem 52 p > 0 then 1 else 0) (mem 35 45).toNat := by
  rw [show (n + 1).toNat = n.toNat + 1 by omega, hxN, show ((n.toNat : Nat) : Int) = n by omega]
theorem heN_s {mem : Int → Int → Int} {p q n : Int} (h : 0 ≤ n) : heN mem p q (n + 1).toNat = heN mem p q n.toNat + (if hxN mem p q (n + 1).toNat ≠ 0 ∧ n % mem 52 p > mem 49 p ∧ wL (numQ mem p n q) = wL (numT mem p n) then 1 else 0) := by
  rw [show (n + 1).toNat = n.toNat + 1 by omega, heN, show ((n.toNat : Nat) : Int) = n by omega]
theorem spN_s {mem : Int → Int → Int} {p n : Int} {ad : Int → Int} (h : 0 ≤ n) : spN mem p ad (n + 1).toNat = spN mem p ad n.toNat + (if wL (numF (nearP mem p) ad (mem 49 p) (mem 52 p) n) ≠ wL (numT mem p n) then 1 else 0) := by
  rw [show (n + 1).toNat = n.toNat + 1 by omega, spN, show ((n.toNat : Nat) : Int) = n by omega]
set_option maxHeartbeats 4000000 in
set_option maxRecDepth 100000 in
theorem c_X12_keepTruth {l : Launch} {g : GP} (hG : GH g) {kd : Int → Nat} {ln : Int → Int} {mem : Int → Int → Int} {sz : Nat} (hS : SK kd ln) (hR : SR mem) (p : Int) (hp : PG mem p) : MT l g yX12_keepTruth cX12_keepTruth 3 none 6 0 0 [(2, 35), (0, p)] kd ln mem sz (pMV (fun mem' => SR mem' ∧ (FT mem mem' ∧ ∀ i : Int, 0 ≤ i → i < mem 47 p → mem' 69 i = numT mem p i)) kd ln sz) := by
  refine MT_of hG (by decide +kernel) (Nat.le_of_ble_eq_true rfl) (fun z hF hr hn => ?_)
  refine jblk hF [(.aload_n 0, 1), (.iload_n 1, 1)] (by decide +kernel) (pc' := 2) (lo' := [(0, (2, 35)), (1, (0, p))]) (st' := [(0, p), (2, 35)]) rfl ?_
  refine jcallV hF (c_X12_makeTrue hG hS hR p (by first | omega | exact hE.fPG hp | exact (EQ36.f _ _).fPG hp)) MW_X12_makeTrue 13 (by decide) (by exact hS.k35) wd_1984 wd_1986 wd_p80 (by decide +kernel) [] rfl rfl (by decide) (Nat.le_of_ble_eq_true rfl) (by decide) (kMV (fun m_1 h_2 => ?_))
  obtain ⟨hR_m_1, h_2⟩ := h_2
  have hK := h_2
  have h47 : m_1 47 p = mem 47 p := hK.1 47 p (by decide) (by decide) (by decide) (by decide)
  have h61 := hK.2.1
  refine jblk hF [(.iconst 0, 1), (.istore_n 2, 1)] (by decide +kernel) (pc' := 7) (lo' := [(2, (0, 0)), (0, (2, 35)), (1, (0, p))]) (st' := []) rfl ?_
  have L_4 : ∀ (fu_5 : Nat) (n : Int) (m1 : Int → Int → Int), (0 ≤ n ∧ n ≤ mem 47 p) → (SR m1) → (FT mem m1) → (m1 61 = m_1 61) → (∀ i : Int, 0 ≤ i → i < n → m1 69 i = numT mem p i) →  (mem 47 p - n).toNat < fu_5 → J z g 3 0 0 (QM z g 0 0 (pMV (fun mem' => SR mem' ∧ (FT mem mem' ∧ ∀ i : Int, 0 ≤ i → i < mem 47 p → mem' 69 i = numT mem p i)) kd ln sz)) 7 [(0, (2, 35)), (1, (0, p)), (2, (0, n))] [] kd ln m1 sz := by
    intro fu_5
    induction fu_5 with
    | zero => intro n m1 _ _ _ _ _ hm; omega
    | succ fu_5 ih_3 =>
      intro n m1 hn1 hR_m1 hft h61b hz1 hm
      have e47 : m1 47 p = mem 47 p := hft 47 p (by decide) (by decide) (by decide) (by decide) (by decide)
      refine jblk hF [(.iload_n 2, 1), (.aload_n 0, 1)] (by decide +kernel) (pc' := 9) (lo' := [(0, (2, 35)), (1, (0, p)), (2, (0, n))]) (st' := [(2, 35), (0, n)]) rfl ?_
      refine jget hF 13 22 2 22 rfl (by decide) (by decide) rfl wd_1485 (by decide +kernel) (by exact hS.k35) ?_
      rw [SR.r22 hR_m1]
      refine jblk hF [(.iload_n 1, 1)] (by decide +kernel) (pc' := 13) (lo' := [(0, (2, 35)), (1, (0, p)), (2, (0, n))]) (st' := [(0, p), (2, 47), (0, n)]) rfl ?_
      refine jiald hF (by decide +kernel) (by exact hS.k47) (by omega) (by have := hS.l47; omega) ?_
      refine jicmp_ge hF (off := 21) 35 (by decide +kernel) (by decide) (by omega) (by omega) (fun h_6 => ?_) (fun h_6 => ?_)
      · refine jvret hF hr (by decide +kernel) ?_
        exact lMV ⟨hR_m1, by exact ⟨hft, fun i h1 h2 => hz1 i h1 (by omega)⟩⟩
      · refine jblk hF [(.aload_n 0, 1)] (by decide +kernel) (pc' := 18) (lo' := [(0, (2, 35)), (1, (0, p)), (2, (0, n))]) (st' := [(2, 35)]) rfl ?_
        refine jget hF 13 47 2 47 rfl (by decide) (by decide) rfl wd_1510 (by decide +kernel) (by exact hS.k35) ?_
        rw [SR.r47 hR_m1]
        refine jblk hF [(.iload_n 2, 1), (.aload_n 0, 1)] (by decide +kernel) (pc' := 23) (lo' := [(0, (2, 35)), (1, (0, p)), (2, (0, n))]) (st' := [(2, 35), (0, n), (2, 69)]) rfl ?_
        refine jget hF 13 37 2 37 rfl (by decide) (by decide) rfl wd_1500 (by decide +kernel) (by exact hS.k35) ?_
        rw [SR.r37 hR_m1]
        refine jblk hF [(.iload_n 2, 1)] (by decide +kernel) (pc' := 27) (lo' := [(0, (2, 35)), (1, (0, p)), (2, (0, n))]) (st' := [(0, n), (2, 61), (0, n), (2, 69)]) rfl ?_
        refine jlald hF (by decide +kernel) (by exact hS.k61) (by omega) (by have := hS.l61; omega) ?_
        refine jlast hF (by decide +kernel) (by decide) (by exact hS.k69) (by omega) (by have := hS.l69; omega) ?_
        refine jblk hF [(.iinc 2 1, 3)] (by decide +kernel) (pc' := 32) (lo' := [(2, (0, n + 1)), (0, (2, 35)), (1, (0, p))]) (st' := []) rfl ?_
        refine jgoto hF (off := (-25)) 7 (by decide +kernel) (by decide) ?_
        refine jsub [1, 2, 0] rfl ?_
        refine ih_3 (n + 1) (set2 m1 69 n (m1 61 n)) ?_ ?_ ?_ ?_ ?_ ?_
        · omega
        · exact hR_m1.s (Or.inl (by decide))
        · exact fun a j q1 q2 q3 q4 q5 => by rw [s2_a q5]; exact hft a j q1 q2 q3 q4 q5
        · exact funext fun j => by rw [s2_a (by decide), h61b]
        · exact upto_put (f := fun i => numT mem p i) hz1 (by show _ = numT mem p n; rw [h61b]; exact h61 n (by omega) (by omega))
        · omega
  refine jsub [1, 2, 0] rfl ?_
  refine L_4 _ 0 m_1 ?_ ?_ ?_ ?_ ?_ (Nat.lt_succ_self _)
  · omega
  · exact hR_m_1
  · exact hK.1.t
  · rfl
  · intro i h1 h2; omega
set_option maxHeartbeats 4000000 in
set_option maxRecDepth 100000 in
theorem c_X12_healed {l : Launch} {g : GP} (hG : GH g) {kd : Int → Nat} {ln : Int → Int} {mem : Int → Int → Int} {sz : Nat} (hS : SK kd ln) (hR : SR mem) (p q : Int) (h_p : InI p) (h_q : InI q) (hPS : PGS mem) (hSL : SLS mem) (h0 : 0 ≤ mem 35 0 ∧ mem 35 0 ≤ 1000) : MT l g yX12_healed cX12_healed 7 (some .int) 7 0 0 [(2, 35), (0, p), (0, q)] kd ln mem sz (pMR 0 (fun v mem' => SR mem' ∧ (((isPg mem p ∧ isKn mem q) → v = heN mem p q (mem 47 p).toNat ∧ FT mem mem') ∧ (¬ (isPg mem p ∧ isKn mem q) → v = -1 ∧ mem' = mem))) kd ln sz) := by
  refine MT_of hG (by decide +kernel) (Nat.le_of_ble_eq_true rfl) (fun z hF hr hn => ?_)
  refine jblk hF [(.aload_n 0, 1), (.iload_n 1, 1)] (by decide +kernel) (pc' := 2) (lo' := [(0, (2, 35)), (1, (0, p)), (2, (0, q))]) (st' := [(0, p), (2, 35)]) rfl ?_
  refine jcallV hF (c_X12_isPage hG hS hR p (by omega) (by omega)) MW_X12_isPage 13 (by decide) (by exact hS.k35) wd_1930 wd_1932 wd_p71 (by decide +kernel) [] rfl rfl (by decide) (Nat.le_of_ble_eq_true rfl) (by decide) (kB (fun h_1 => ?_) (fun h_1 => ?_))
  · refine jif_eq hF (off := 11) 16 (by decide +kernel) (by decide) (by decide) (fun h => absurd h (by decide)) (fun _ => ?_)
    have hp := hPS.2.2 p (by omega) (by omega)
    refine jblk hF [(.aload_n 0, 1), (.iload_n 2, 1)] (by decide +kernel) (pc' := 10) (lo' := [(0, (2, 35)), (1, (0, p)), (2, (0, q))]) (st' := [(0, q), (2, 35)]) rfl ?_
    refine jcallV hF (c_X12_isKnowing hG hS hR q (by omega) (by omega)) MW_X12_isKnowing 13 (by decide) (by exact hS.k35) wd_2004 wd_2006 wd_p84 (by decide +kernel) [] rfl rfl (by decide) (Nat.le_of_ble_eq_true rfl) (by decide) (kB (fun h_3 => ?_) (fun h_3 => ?_))
    · refine jif_ne hF (off := 5) 18 (by decide +kernel) (by decide) (by decide) (fun _ => ?_) (fun h => absurd h (by decide))
      refine jblk hF [(.aload_n 0, 1), (.iload_n 1, 1)] (by decide +kernel) (pc' := 20) (lo' := [(0, (2, 35)), (1, (0, p)), (2, (0, q))]) (st' := [(0, p), (2, 35)]) rfl ?_
      refine jcallV hF (c_X12_keepTruth hG hS hR p (by first | omega | exact hE.fPG hp | exact (EQ36.f _ _).fPG hp)) MW_X12_keepTruth 13 (by decide) (by exact hS.k35) wd_2100 wd_2102 wd_p94 (by decide +kernel) [] rfl rfl (by decide) (Nat.le_of_ble_eq_true rfl) (by decide) (kMV (fun m_5 h_6 => ?_))
      obtain ⟨hR_m_5, h_6⟩ := h_6
      have hT := h_6
      have hE1 : EQ69 mem m_5 := hT.1.e
      have e45 : m_5 35 45 = mem 35 45 := hT.1 35 45 (by decide) (by decide) (by decide) (by decide) (by decide)
      have e33 : m_5 35 33 = mem 35 33 := hT.1 35 33 (by decide) (by decide) (by decide) (by decide) (by decide)
      have e00 : m_5 35 0 = mem 35 0 := hT.1 35 0 (by decide) (by decide) (by decide) (by decide) (by decide)
      refine jblk hF [(.aload_n 0, 1), (.iload_n 1, 1), (.iload_n 2, 1)] (by decide +kernel) (pc' := 26) (lo' := [(0, (2, 35)), (1, (0, p)), (2, (0, q))]) (st' := [(0, q), (0, p), (2, 35)]) rfl ?_
      refine jcallV hF (c_X12_makeAs hG hS hR_m_5 p q (by first | exact hE1.fPG hp | (first | omega | exact hE.fPG hp | exact (EQ36.f _ _).fPG hp)) (by first | exact hE1.fSLS e45 e33 e00 hSL | (first | exact hSL | exact (EQ36.f _ _).fSLS (s2_k (by decide)) (s2_k (by decide)) (s2_k (by decide)) hSL)) (by first | (rw [e33]; omega) | (first | omega | (rw [show (set2 mem 35 1 0) 35 33 = mem 35 33 from s2_k (by decide)]; omega) | (rw [show (set2 mem 35 1 0) 35 0 = mem 35 0 from s2_k (by decide)]; omega))) (by omega) (by first | (rw [e00]; omega) | (first | omega | (rw [show (set2 mem 35 1 0) 35 33 = mem 35 33 from s2_k (by decide)]; omega) | (rw [show (set2 mem 35 1 0) 35 0 = mem 35 0 from s2_k (by decide)]; omega)))) MW_X12_makeAs 13 (by decide) (by exact hS.k35) wd_2008 wd_2010 wd_p85 (by decide +kernel) [] rfl rfl (by decide) (Nat.le_of_ble_eq_true rfl) (by decide) (kMV (fun m_7 h_8 => ?_))
      obtain ⟨hR_m_7, h_8⟩ := h_8
      have hK := h_8
      have hF2 : FT mem m_7 := hT.1.tr hK.1.t
      have hE : EQ69 mem m_7 := hF2.e
      have e45b : m_7 35 45 = mem 35 45 := hF2 35 45 (by decide) (by decide) (by decide) (by decide) (by decide)
      have e47 := congrFun (hE.at 47 (by decide)) p
      have e49 := congrFun (hE.at 49 (by decide)) p
      have e52 := congrFun (hE.at 52 (by decide)) p
      have e63 : ∀ i : Int, m_7 63 i = mem 63 i := fun i => congrFun (hE.at 63 (by decide)) i
      have e64 : ∀ i : Int, m_7 64 i = mem 64 i := fun i => congrFun (hE.at 64 (by decide)) i
      have e67 : ∀ i : Int, m_7 67 i = mem 67 i := fun i => congrFun (hE.at 67 (by decide)) i
      have e68 : ∀ i : Int, m_7 68 i = mem 68 i := fun i => congrFun (hE.at 68 (by decide)) i
      have hnum : ∀ i : Int, 0 ≤ i → i < mem 47 p → m_7 61 i = numQ mem p i q := fun i h1 h2 => by rw [← hE1.fnumQ e45]; exact hK.2.1 i h1 (by rw [hE1.at 47 (by decide)]; exact h2)
      have htru : ∀ i : Int, 0 ≤ i → i < mem 47 p → m_7 69 i = numT mem p i := fun i h1 h2 => by rw [hK.1 69 i (by decide) (by decide) (by decide) (by decide)]; exact hT.2 i h1 h2
      have em : ∀ i : Int, i % m_7 52 p = i % mem 52 p := fun i => by rw [e52]
      refine jblk hF [(.iconst 0, 1), (.istore_n 3, 1), (.iconst 0, 1), (.istore 4, 2), (.iconst 0, 1), (.istore 5, 2)] (by decide +kernel) (pc' := 37) (lo' := [(5, (0, 0)), (4, (0, 0)), (3, (0, 0)), (0, (2, 35)), (1, (0, p)), (2, (0, q))]) (st' := []) rfl ?_
      have L_10 : ∀ (fu_11 : Nat) (k : Int) (b : Int) (n : Int), (0 ≤ n ∧ n ≤ mem 47 p) → (b = hxN mem p q n.toNat ∧ 0 ≤ b ∧ b ≤ 1) → (k = heN mem p q n.toNat) →  (mem 47 p - n).toNat < fu_11 → J z g 7 0 0 (QM z g 0 0 (pMR 0 (fun v mem' => SR mem' ∧ (((isPg mem p ∧ isKn mem q) → v = heN mem p q (mem 47 p).toNat ∧ FT mem mem') ∧ (¬ (isPg mem p ∧ isKn mem q) → v = -1 ∧ mem' = mem))) kd ln sz)) 37 [(0, (2, 35)), (1, (0, p)), (2, (0, q)), (3, (0, k)), (4, (0, b)), (5, (0, n))] [] kd ln m_7 sz := by
        intro fu_11
        induction fu_11 with
        | zero => intro k b n _ _ _ hm; omega
        | succ fu_11 ih_9 =>
          intro k b n hn1 hb hk hm
          have hbd := heN_bd mem p q n.toNat
          refine jblk hF [(.iload 5, 2), (.aload_n 0, 1)] (by decide +kernel) (pc' := 40) (lo' := [(0, (2, 35)), (1, (0, p)), (2, (0, q)), (3, (0, k)), (4, (0, b)), (5, (0, n))]) (st' := [(2, 35), (0, n)]) rfl ?_
          refine jget hF 13 22 2 22 rfl (by decide) (by decide) rfl wd_1485 (by decide +kernel) (by exact hS.k35) ?_
          rw [SR.r22 hR_m_7]
          refine jblk hF [(.iload_n 1, 1)] (by decide +kernel) (pc' := 44) (lo' := [(0, (2, 35)), (1, (0, p)), (2, (0, q)), (3, (0, k)), (4, (0, b)), (5, (0, n))]) (st' := [(0, p), (2, 47), (0, n)]) rfl ?_
          refine jiald hF (by decide +kernel) (by exact hS.k47) (by omega) (by have := hS.l47; omega) ?_
          refine jicmp_ge hF (off := 135) 180 (by decide +kernel) (by decide) (by omega) (by omega) (fun h_12 => ?_) (fun h_12 => ?_)
          · refine jblk hF [(.iload_n 3, 1)] (by decide +kernel) (pc' := 181) (lo' := [(0, (2, 35)), (1, (0, p)), (2, (0, q)), (3, (0, k)), (4, (0, b)), (5, (0, n))]) (st' := [(0, k)]) rfl ?_
            refine jiret hF hr (by decide +kernel) ?_
            exact lMR ⟨hR_m_7, by first | exact ⟨fun h => absurd h (by omega), fun _ => ⟨rfl, rfl⟩⟩ | exact ⟨fun _ => ⟨by rw [hk]; congr 1; omega, hF2⟩, fun h => absurd (by omega) h⟩⟩
          · have em1 := em n
            refine jblk hF [(.iload 4, 2)] (by decide +kernel) (pc' := 50) (lo' := [(0, (2, 35)), (1, (0, p)), (2, (0, q)), (3, (0, k)), (4, (0, b)), (5, (0, n))]) (st' := [(0, b)]) rfl ?_
            refine jif_eq hF (off := 17) 67 (by decide +kernel) (by decide) (by omega) (fun h_13 => ?_) (fun h_13 => ?_)
            · refine jblk hF [(.iconst 0, 1), (.istore 4, 2), (.iconst 0, 1), (.istore 6, 2)] (by decide +kernel) (pc' := 73) (lo' := [(6, (0, 0)), (4, (0, 0)), (0, (2, 35)), (1, (0, p)), (2, (0, q)), (3, (0, k)), (5, (0, n))]) (st' := []) rfl ?_
              have L_15 : ∀ (fu_16 : Nat) (d : Int) (s : Int), (0 ≤ s ∧ s ≤ mem 35 45) → (d = sxN mem p q n (if hxN mem p q n.toNat ≠ 0 ∧ n % mem 52 p > 0 then 1 else 0) s.toNat ∧ 0 ≤ d ∧ d ≤ 1) →  (mem 35 45 - s).toNat < fu_16 → J z g 7 0 0 (QM z g 0 0 (pMR 0 (fun v mem' => SR mem' ∧ (((isPg mem p ∧ isKn mem q) → v = heN mem p q (mem 47 p).toNat ∧ FT mem mem') ∧ (¬ (isPg mem p ∧ isKn mem q) → v = -1 ∧ mem' = mem))) kd ln sz)) 73 [(0, (2, 35)), (1, (0, p)), (2, (0, q)), (3, (0, k)), (4, (0, d)), (5, (0, n)), (6, (0, s))] [] kd ln m_7 sz := by
                intro fu_16
                induction fu_16 with
                | zero => intro d s _ _ hm; omega
                | succ fu_16 ih_14 =>
                  intro d s hs1 hd hm2
                  refine jblk hF [(.iload 6, 2), (.aload_n 0, 1)] (by decide +kernel) (pc' := 76) (lo' := [(0, (2, 35)), (1, (0, p)), (2, (0, q)), (3, (0, k)), (4, (0, d)), (5, (0, n)), (6, (0, s))]) (st' := [(2, 35), (0, s)]) rfl ?_
                  refine jget hF 13 45 0 45 rfl (by decide) (by decide) rfl wd_1508 (by decide +kernel) (by exact hS.k35) ?_
                  refine jicmp_ge hF (off := 54) 133 (by decide +kernel) (by decide) (by omega) (by omega) (fun h_17 => ?_) (fun h_17 => ?_)
                  · have hn7 := hnum n (by omega) (by omega)
                    have hn8 := htru n (by omega) (by omega)
                    have hse : s = mem 35 45 := by omega
                    rw [hse] at hd
                    refine jblk hF [(.iload_n 3, 1), (.iload 4, 2)] (by decide +kernel) (pc' := 136) (lo' := [(0, (2, 35)), (1, (0, p)), (2, (0, q)), (3, (0, k)), (4, (0, d)), (5, (0, n)), (6, (0, s))]) (st' := [(0, d), (0, k)]) rfl ?_
                    refine jif_eq hF (off := 35) 171 (by decide +kernel) (by decide) (by omega) (fun h_18 => ?_) (fun h_18 => ?_)
                    · refine jblk hF [(.iconst 0, 1), (.iadd, 1), (.istore_n 3, 1), (.iinc 5 1, 3)] (by decide +kernel) (pc' := 177) (lo' := [(5, (0, n + 1)), (3, (0, k + 0)), (0, (2, 35)), (1, (0, p)), (2, (0, q)), (4, (0, d)), (6, (0, s))]) (st' := []) rfl ?_
                      refine jgoto hF (off := (-140)) 37 (by decide +kernel) (by decide) ?_
                      refine jsub [2, 3, 4, 1, 5, 0] rfl ?_
                      refine ih_9 (k + 0) d (n + 1) ?_ ?_ ?_ ?_
                      · omega
                      · exact ⟨by rw [hxN_s (by omega)]; omega, by omega, by omega⟩
                      · rw [heN_s (by omega), hxN_s (by omega), ← hn7, ← hn8]; first | (rw [if_pos (by omega)]; omega) | (rw [if_neg (by omega)]; omega)
                      · omega
                    · refine jblk hF [(.aload_n 0, 1), (.iload_n 1, 1), (.iload 5, 2)] (by decide +kernel) (pc' := 143) (lo' := [(0, (2, 35)), (1, (0, p)), (2, (0, q)), (3, (0, k)), (4, (0, d)), (5, (0, n)), (6, (0, s))]) (st' := [(0, n), (0, p), (2, 35), (0, k)]) rfl ?_
                      refine jcallV hF (c_X12_isMade hG hS hR_m_7 p n (by first | omega | exact hE.fPG hp | exact (EQ36.f _ _).fPG hp) (by omega)) MW_X12_isMade 13 (by decide) (by exact hS.k35) wd_1942 wd_1944 wd_p74 (by decide +kernel) [(0, k)] rfl rfl (by decide) (Nat.le_of_ble_eq_true rfl) (by decide) (kB (fun h_19 => ?_) (fun h_19 => ?_))
                      · refine jif_eq hF (off := 25) 171 (by decide +kernel) (by decide) (by decide) (fun h => absurd h (by decide)) (fun _ => ?_)
                        refine jblk hF [(.aload_n 0, 1)] (by decide +kernel) (pc' := 150) (lo' := [(0, (2, 35)), (1, (0, p)), (2, (0, q)), (3, (0, k)), (4, (0, d)), (5, (0, n)), (6, (0, s))]) (st' := [(2, 35), (0, k)]) rfl ?_
                        refine jget hF 13 37 2 37 rfl (by decide) (by decide) rfl wd_1500 (by decide +kernel) (by exact hS.k35) ?_
                        rw [SR.r37 hR_m_7]
                        refine jblk hF [(.iload 5, 2)] (by decide +kernel) (pc' := 155) (lo' := [(0, (2, 35)), (1, (0, p)), (2, (0, q)), (3, (0, k)), (4, (0, d)), (5, (0, n)), (6, (0, s))]) (st' := [(0, n), (2, 61), (0, k)]) rfl ?_
                        refine jlald hF (by decide +kernel) (by exact hS.k61) (by omega) (by have := hS.l61; omega) ?_
                        refine jblk hF [(.aload_n 0, 1)] (by decide +kernel) (pc' := 157) (lo' := [(0, (2, 35)), (1, (0, p)), (2, (0, q)), (3, (0, k)), (4, (0, d)), (5, (0, n)), (6, (0, s))]) (st' := [(2, 35), (1, m_7 61 n), (0, k)]) rfl ?_
                        refine jget hF 13 47 2 47 rfl (by decide) (by decide) rfl wd_1510 (by decide +kernel) (by exact hS.k35) ?_
                        rw [SR.r47 hR_m_7]
                        refine jblk hF [(.iload 5, 2)] (by decide +kernel) (pc' := 162) (lo' := [(0, (2, 35)), (1, (0, p)), (2, (0, q)), (3, (0, k)), (4, (0, d)), (5, (0, n)), (6, (0, s))]) (st' := [(0, n), (2, 69), (1, m_7 61 n), (0, k)]) rfl ?_
                        refine jlald hF (by decide +kernel) (by exact hS.k69) (by omega) (by have := hS.l69; omega) ?_
                        refine jlcmpW_ne hF (off := 7) 171 (by decide +kernel) (by decide +kernel) (by decide) (fun h_21 => ?_) (fun h_21 => ?_)
                        · refine jblk hF [(.iconst 0, 1), (.iadd, 1), (.istore_n 3, 1), (.iinc 5 1, 3)] (by decide +kernel) (pc' := 177) (lo' := [(5, (0, n + 1)), (3, (0, k + 0)), (0, (2, 35)), (1, (0, p)), (2, (0, q)), (4, (0, d)), (6, (0, s))]) (st' := []) rfl ?_
                          refine jgoto hF (off := (-140)) 37 (by decide +kernel) (by decide) ?_
                          refine jsub [2, 3, 4, 1, 5, 0] rfl ?_
                          refine ih_9 (k + 0) d (n + 1) ?_ ?_ ?_ ?_
                          · omega
                          · exact ⟨by rw [hxN_s (by omega)]; omega, by omega, by omega⟩
                          · rw [heN_s (by omega), hxN_s (by omega), ← hn7, ← hn8]; first | (rw [if_pos (by omega)]; omega) | (rw [if_neg (by omega)]; omega)
                          · omega
                        · refine jblk hF [(.iconst 1, 1)] (by decide +kernel) (pc' := 168) (lo' := [(0, (2, 35)), (1, (0, p)), (2, (0, q)), (3, (0, k)), (4, (0, d)), (5, (0, n)), (6, (0, s))]) (st' := [(0, 1), (0, k)]) rfl ?_
                          refine jgoto hF (off := 4) 172 (by decide +kernel) (by decide) ?_
                          refine jblk hF [(.iadd, 1), (.istore_n 3, 1), (.iinc 5 1, 3)] (by decide +kernel) (pc' := 177) (lo' := [(5, (0, n + 1)), (3, (0, k + 1)), (0, (2, 35)), (1, (0, p)), (2, (0, q)), (4, (0, d)), (6, (0, s))]) (st' := []) rfl ?_
                          refine jgoto hF (off := (-140)) 37 (by decide +kernel) (by decide) ?_
                          refine jsub [2, 3, 4, 1, 5, 0] rfl ?_
                          refine ih_9 (k + 1) d (n + 1) ?_ ?_ ?_ ?_
                          · omega
                          · exact ⟨by rw [hxN_s (by omega)]; omega, by omega, by omega⟩
                          · rw [heN_s (by omega), hxN_s (by omega), ← hn7, ← hn8]; first | (rw [if_pos (by omega)]; omega) | (rw [if_neg (by omega)]; omega)
                          · omega
                      · refine jif_eq hF (off := 25) 171 (by decide +kernel) (by decide) (by decide) (fun _ => ?_) (fun h => absurd h (by decide))
                        refine jblk hF [(.iconst 0, 1), (.iadd, 1), (.istore_n 3, 1), (.iinc 5 1, 3)] (by decide +kernel) (pc' := 177) (lo' := [(5, (0, n + 1)), (3, (0, k + 0)), (0, (2, 35)), (1, (0, p)), (2, (0, q)), (4, (0, d)), (6, (0, s))]) (st' := []) rfl ?_
                        refine jgoto hF (off := (-140)) 37 (by decide +kernel) (by decide) ?_
                        refine jsub [2, 3, 4, 1, 5, 0] rfl ?_
                        refine ih_9 (k + 0) d (n + 1) ?_ ?_ ?_ ?_
                        · omega
                        · exact ⟨by rw [hxN_s (by omega)]; omega, by omega, by omega⟩
                        · rw [heN_s (by omega), hxN_s (by omega), ← hn7, ← hn8]; first | (rw [if_pos (by omega)]; omega) | (rw [if_neg (by omega)]; omega)
                        · omega
                  · refine jblk hF [(.iload 4, 2)] (by decide +kernel) (pc' := 84) (lo' := [(0, (2, 35)), (1, (0, p)), (2, (0, q)), (3, (0, k)), (4, (0, d)), (5, (0, n)), (6, (0, s))]) (st' := [(0, d)]) rfl ?_
                    refine jif_ne hF (off := 36) 120 (by decide +kernel) (by decide) (by omega) (fun h_23 => ?_) (fun h_23 => ?_)
                    · refine jblk hF [(.iconst 1, 1)] (by decide +kernel) (pc' := 121) (lo' := [(0, (2, 35)), (1, (0, p)), (2, (0, q)), (3, (0, k)), (4, (0, d)), (5, (0, n)), (6, (0, s))]) (st' := [(0, 1)]) rfl ?_
                      refine jgoto hF (off := 4) 125 (by decide +kernel) (by decide) ?_
                      refine jblk hF [(.istore 4, 2), (.iinc 6 1, 3)] (by decide +kernel) (pc' := 130) (lo' := [(6, (0, s + 1)), (4, (0, 1)), (0, (2, 35)), (1, (0, p)), (2, (0, q)), (3, (0, k)), (5, (0, n))]) (st' := []) rfl ?_
                      refine jgoto hF (off := (-57)) 73 (by decide +kernel) (by decide) ?_
                      refine jsub [2, 3, 4, 5, 1, 6, 0] rfl ?_
                      refine ih_14 1 (s + 1) ?_ ?_ ?_
                      · omega
                      · exact ⟨by rw [sxN_s (by omega)]; first | exact (if_pos (by omega)).symm | exact (if_neg (by omega)).symm, by omega, by omega⟩
                      · omega
                    · have es3 := e63 s
                      have es4 := e64 s
                      have es7 := e67 s
                      have es8 := e68 s
                      have hs := hSL.2.2 s (by omega) (by omega)
                      refine jblk hF [(.aload_n 0, 1)] (by decide +kernel) (pc' := 88) (lo' := [(0, (2, 35)), (1, (0, p)), (2, (0, q)), (3, (0, k)), (4, (0, d)), (5, (0, n)), (6, (0, s))]) (st' := [(2, 35)]) rfl ?_
                      refine jget hF 13 39 2 39 rfl (by decide) (by decide) rfl wd_1502 (by decide +kernel) (by exact hS.k35) ?_
                      rw [SR.r39 hR_m_7]
                      refine jblk hF [(.iload 6, 2)] (by decide +kernel) (pc' := 93) (lo' := [(0, (2, 35)), (1, (0, p)), (2, (0, q)), (3, (0, k)), (4, (0, d)), (5, (0, n)), (6, (0, s))]) (st' := [(0, s), (2, 63)]) rfl ?_
                      refine jiald hF (by decide +kernel) (by exact hS.k63) (by omega) (by have := hS.l63; omega) ?_
                      refine jblk hF [(.iload_n 1, 1)] (by decide +kernel) (pc' := 95) (lo' := [(0, (2, 35)), (1, (0, p)), (2, (0, q)), (3, (0, k)), (4, (0, d)), (5, (0, n)), (6, (0, s))]) (st' := [(0, p), (0, m_7 63 s)]) rfl ?_
                      refine jicmp_ne hF (off := 29) 124 (by decide +kernel) (by decide) (by omega) (by omega) (fun h_24 => ?_) (fun h_24 => ?_)
                      · refine jblk hF [(.iconst 0, 1), (.istore 4, 2), (.iinc 6 1, 3)] (by decide +kernel) (pc' := 130) (lo' := [(6, (0, s + 1)), (4, (0, 0)), (0, (2, 35)), (1, (0, p)), (2, (0, q)), (3, (0, k)), (5, (0, n))]) (st' := []) rfl ?_
                        refine jgoto hF (off := (-57)) 73 (by decide +kernel) (by decide) ?_
                        refine jsub [2, 3, 4, 5, 1, 6, 0] rfl ?_
                        refine ih_14 0 (s + 1) ?_ ?_ ?_
                        · omega
                        · exact ⟨by rw [sxN_s (by omega)]; first | exact (if_pos (by omega)).symm | exact (if_neg (by omega)).symm, by omega, by omega⟩
                        · omega
                      · have hsp : mem 63 s = p := by omega
                        unfold SL at hs
                        rw [hsp] at hs
                        refine jblk hF [(.aload_n 0, 1)] (by decide +kernel) (pc' := 99) (lo' := [(0, (2, 35)), (1, (0, p)), (2, (0, q)), (3, (0, k)), (4, (0, d)), (5, (0, n)), (6, (0, s))]) (st' := [(2, 35)]) rfl ?_
                        refine jget hF 13 40 2 40 rfl (by decide) (by decide) rfl wd_1503 (by decide +kernel) (by exact hS.k35) ?_
                        rw [SR.r40 hR_m_7]
                        refine jblk hF [(.iload 6, 2)] (by decide +kernel) (pc' := 104) (lo' := [(0, (2, 35)), (1, (0, p)), (2, (0, q)), (3, (0, k)), (4, (0, d)), (5, (0, n)), (6, (0, s))]) (st' := [(0, s), (2, 64)]) rfl ?_
                        refine jiald hF (by decide +kernel) (by exact hS.k64) (by omega) (by have := hS.l64; omega) ?_
                        refine jblk hF [(.iload 5, 2)] (by decide +kernel) (pc' := 107) (lo' := [(0, (2, 35)), (1, (0, p)), (2, (0, q)), (3, (0, k)), (4, (0, d)), (5, (0, n)), (6, (0, s))]) (st' := [(0, n), (0, m_7 64 s)]) rfl ?_
                        refine jicmp_ne hF (off := 17) 124 (by decide +kernel) (by decide) (by omega) (by omega) (fun h_25 => ?_) (fun h_25 => ?_)
                        · refine jblk hF [(.iconst 0, 1), (.istore 4, 2), (.iinc 6 1, 3)] (by decide +kernel) (pc' := 130) (lo' := [(6, (0, s + 1)), (4, (0, 0)), (0, (2, 35)), (1, (0, p)), (2, (0, q)), (3, (0, k)), (5, (0, n))]) (st' := []) rfl ?_
                          refine jgoto hF (off := (-57)) 73 (by decide +kernel) (by decide) ?_
                          refine jsub [2, 3, 4, 5, 1, 6, 0] rfl ?_
                          refine ih_14 0 (s + 1) ?_ ?_ ?_
                          · omega
                          · exact ⟨by rw [sxN_s (by omega)]; first | exact (if_pos (by omega)).symm | exact (if_neg (by omega)).symm, by omega, by omega⟩
                          · omega
                        · refine jblk hF [(.aload_n 0, 1), (.iload 6, 2), (.iload_n 2, 1)] (by decide +kernel) (pc' := 114) (lo' := [(0, (2, 35)), (1, (0, p)), (2, (0, q)), (3, (0, k)), (4, (0, d)), (5, (0, n)), (6, (0, s))]) (st' := [(0, q), (0, s), (2, 35)]) rfl ?_
                          refine jcallV hF (c_X12_counts hG hS hR_m_7 s q (by omega) (by omega) (by omega) (by omega)) MW_X12_counts 13 (by decide) (by exact hS.k35) wd_2012 wd_2014 wd_p86 (by decide +kernel) [] rfl rfl (by decide) (Nat.le_of_ble_eq_true rfl) (by decide) (kB (fun h_26 => ?_) (fun h_26 => ?_))
                          · refine jif_eq hF (off := 7) 124 (by decide +kernel) (by decide) (by decide) (fun h => absurd h (by decide)) (fun _ => ?_)
                            refine jblk hF [(.iconst 1, 1)] (by decide +kernel) (pc' := 121) (lo' := [(0, (2, 35)), (1, (0, p)), (2, (0, q)), (3, (0, k)), (4, (0, d)), (5, (0, n)), (6, (0, s))]) (st' := [(0, 1)]) rfl ?_
                            refine jgoto hF (off := 4) 125 (by decide +kernel) (by decide) ?_
                            refine jblk hF [(.istore 4, 2), (.iinc 6 1, 3)] (by decide +kernel) (pc' := 130) (lo' := [(6, (0, s + 1)), (4, (0, 1)), (0, (2, 35)), (1, (0, p)), (2, (0, q)), (3, (0, k)), (5, (0, n))]) (st' := []) rfl ?_
                            refine jgoto hF (off := (-57)) 73 (by decide +kernel) (by decide) ?_
                            refine jsub [2, 3, 4, 5, 1, 6, 0] rfl ?_
                            refine ih_14 1 (s + 1) ?_ ?_ ?_
                            · omega
                            · exact ⟨by rw [sxN_s (by omega)]; first | exact (if_pos (by omega)).symm | exact (if_neg (by omega)).symm, by omega, by omega⟩
                            · omega
                          · refine jif_eq hF (off := 7) 124 (by decide +kernel) (by decide) (by decide) (fun _ => ?_) (fun h => absurd h (by decide))
                            refine jblk hF [(.iconst 0, 1), (.istore 4, 2), (.iinc 6 1, 3)] (by decide +kernel) (pc' := 130) (lo' := [(6, (0, s + 1)), (4, (0, 0)), (0, (2, 35)), (1, (0, p)), (2, (0, q)), (3, (0, k)), (5, (0, n))]) (st' := []) rfl ?_
                            refine jgoto hF (off := (-57)) 73 (by decide +kernel) (by decide) ?_
                            refine jsub [2, 3, 4, 5, 1, 6, 0] rfl ?_
                            refine ih_14 0 (s + 1) ?_ ?_ ?_
                            · omega
                            · exact ⟨by rw [sxN_s (by omega)]; first | exact (if_pos (by omega)).symm | exact (if_neg (by omega)).symm, by omega, by omega⟩
                            · omega
              refine jsub [2, 3, 4, 5, 1, 6, 0] rfl ?_
              refine L_15 _ 0 0 ?_ ?_ (Nat.lt_succ_self _)
              · omega
              · exact ⟨by rw [show (0 : Int).toNat = 0 from rfl, sxN]; first | exact (if_pos (by omega)).symm | exact (if_neg (by omega)).symm, by omega, by omega⟩
            · refine jblk hF [(.aload_n 0, 1), (.iload_n 1, 1), (.iload 5, 2)] (by decide +kernel) (pc' := 57) (lo' := [(0, (2, 35)), (1, (0, p)), (2, (0, q)), (3, (0, k)), (4, (0, b)), (5, (0, n))]) (st' := [(0, n), (0, p), (2, 35)]) rfl ?_
              refine jcallV hF (c_X12_placeOf hG hS hR_m_7 p n (by first | omega | exact hE.fPG hp | exact (EQ36.f _ _).fPG hp) (by omega)) MW_X12_placeOf 13 (by decide) (by exact hS.k35) wd_1946 wd_1948 wd_p75 (by decide +kernel) [] rfl rfl (by decide) (Nat.le_of_ble_eq_true rfl) (by decide) (kV ?_)
              have hf_29 := emod_bd (n) (m_7 52 p) (by omega) (by omega)
              refine jif_le hF (off := 7) 67 (by decide +kernel) (by decide) (by omega) (fun h_30 => ?_) (fun h_30 => ?_)
              · refine jblk hF [(.iconst 0, 1), (.istore 4, 2), (.iconst 0, 1), (.istore 6, 2)] (by decide +kernel) (pc' := 73) (lo' := [(6, (0, 0)), (4, (0, 0)), (0, (2, 35)), (1, (0, p)), (2, (0, q)), (3, (0, k)), (5, (0, n))]) (st' := []) rfl ?_
                have L_32 : ∀ (fu_33 : Nat) (d : Int) (s : Int), (0 ≤ s ∧ s ≤ mem 35 45) → (d = sxN mem p q n (if hxN mem p q n.toNat ≠ 0 ∧ n % mem 52 p > 0 then 1 else 0) s.toNat ∧ 0 ≤ d ∧ d ≤ 1) →  (mem 35 45 - s).toNat < fu_33 → J z g 7 0 0 (QM z g 0 0 (pMR 0 (fun v mem' => SR mem' ∧ (((isPg mem p ∧ isKn mem q) → v = heN mem p q (mem 47 p).toNat ∧ FT mem mem') ∧ (¬ (isPg mem p ∧ isKn mem q) → v = -1 ∧ mem' = mem))) kd ln sz)) 73 [(0, (2, 35)), (1, (0, p)), (2, (0, q)), (3, (0, k)), (4, (0, d)), (5, (0, n)), (6, (0, s))] [] kd ln m_7 sz := by
                  intro fu_33
                  induction fu_33 with
                  | zero => intro d s _ _ hm; omega
                  | succ fu_33 ih_31 =>
                    intro d s hs1 hd hm2
                    refine jblk hF [(.iload 6, 2), (.aload_n 0, 1)] (by decide +kernel) (pc' := 76) (lo' := [(0, (2, 35)), (1, (0, p)), (2, (0, q)), (3, (0, k)), (4, (0, d)), (5, (0, n)), (6, (0, s))]) (st' := [(2, 35), (0, s)]) rfl ?_
                    refine jget hF 13 45 0 45 rfl (by decide) (by decide) rfl wd_1508 (by decide +kernel) (by exact hS.k35) ?_
                    refine jicmp_ge hF (off := 54) 133 (by decide +kernel) (by decide) (by omega) (by omega) (fun h_34 => ?_) (fun h_34 => ?_)
                    · have hn7 := hnum n (by omega) (by omega)
                      have hn8 := htru n (by omega) (by omega)
                      have hse : s = mem 35 45 := by omega
                      rw [hse] at hd
                      refine jblk hF [(.iload_n 3, 1), (.iload 4, 2)] (by decide +kernel) (pc' := 136) (lo' := [(0, (2, 35)), (1, (0, p)), (2, (0, q)), (3, (0, k)), (4, (0, d)), (5, (0, n)), (6, (0, s))]) (st' := [(0, d), (0, k)]) rfl ?_
                      refine jif_eq hF (off := 35) 171 (by decide +kernel) (by decide) (by omega) (fun h_35 => ?_) (fun h_35 => ?_)
                      · refine jblk hF [(.iconst 0, 1), (.iadd, 1), (.istore_n 3, 1), (.iinc 5 1, 3)] (by decide +kernel) (pc' := 177) (lo' := [(5, (0, n + 1)), (3, (0, k + 0)), (0, (2, 35)), (1, (0, p)), (2, (0, q)), (4, (0, d)), (6, (0, s))]) (st' := []) rfl ?_
                        refine jgoto hF (off := (-140)) 37 (by decide +kernel) (by decide) ?_
                        refine jsub [2, 3, 4, 1, 5, 0] rfl ?_
                        refine ih_9 (k + 0) d (n + 1) ?_ ?_ ?_ ?_
                        · omega
                        · exact ⟨by rw [hxN_s (by omega)]; omega, by omega, by omega⟩
                        · rw [heN_s (by omega), hxN_s (by omega), ← hn7, ← hn8]; first | (rw [if_pos (by omega)]; omega) | (rw [if_neg (by omega)]; omega)
                        · omega
                      · refine jblk hF [(.aload_n 0, 1), (.iload_n 1, 1), (.iload 5, 2)] (by decide +kernel) (pc' := 143) (lo' := [(0, (2, 35)), (1, (0, p)), (2, (0, q)), (3, (0, k)), (4, (0, d)), (5, (0, n)), (6, (0, s))]) (st' := [(0, n), (0, p), (2, 35), (0, k)]) rfl ?_
                        refine jcallV hF (c_X12_isMade hG hS hR_m_7 p n (by first | omega | exact hE.fPG hp | exact (EQ36.f _ _).fPG hp) (by omega)) MW_X12_isMade 13 (by decide) (by exact hS.k35) wd_1942 wd_1944 wd_p74 (by decide +kernel) [(0, k)] rfl rfl (by decide) (Nat.le_of_ble_eq_true rfl) (by decide) (kB (fun h_36 => ?_) (fun h_36 => ?_))
                        · refine jif_eq hF (off := 25) 171 (by decide +kernel) (by decide) (by decide) (fun h => absurd h (by decide)) (fun _ => ?_)
                          refine jblk hF [(.aload_n 0, 1)] (by decide +kernel) (pc' := 150) (lo' := [(0, (2, 35)), (1, (0, p)), (2, (0, q)), (3, (0, k)), (4, (0, d)), (5, (0, n)), (6, (0, s))]) (st' := [(2, 35), (0, k)]) rfl ?_
                          refine jget hF 13 37 2 37 rfl (by decide) (by decide) rfl wd_1500 (by decide +kernel) (by exact hS.k35) ?_
                          rw [SR.r37 hR_m_7]
                          refine jblk hF [(.iload 5, 2)] (by decide +kernel) (pc' := 155) (lo' := [(0, (2, 35)), (1, (0, p)), (2, (0, q)), (3, (0, k)), (4, (0, d)), (5, (0, n)), (6, (0, s))]) (st' := [(0, n), (2, 61), (0, k)]) rfl ?_
                          refine jlald hF (by decide +kernel) (by exact hS.k61) (by omega) (by have := hS.l61; omega) ?_
                          refine jblk hF [(.aload_n 0, 1)] (by decide +kernel) (pc' := 157) (lo' := [(0, (2, 35)), (1, (0, p)), (2, (0, q)), (3, (0, k)), (4, (0, d)), (5, (0, n)), (6, (0, s))]) (st' := [(2, 35), (1, m_7 61 n), (0, k)]) rfl ?_
                          refine jget hF 13 47 2 47 rfl (by decide) (by decide) rfl wd_1510 (by decide +kernel) (by exact hS.k35) ?_
                          rw [SR.r47 hR_m_7]
                          refine jblk hF [(.iload 5, 2)] (by decide +kernel) (pc' := 162) (lo' := [(0, (2, 35)), (1, (0, p)), (2, (0, q)), (3, (0, k)), (4, (0, d)), (5, (0, n)), (6, (0, s))]) (st' := [(0, n), (2, 69), (1, m_7 61 n), (0, k)]) rfl ?_
                          refine jlald hF (by decide +kernel) (by exact hS.k69) (by omega) (by have := hS.l69; omega) ?_
                          refine jlcmpW_ne hF (off := 7) 171 (by decide +kernel) (by decide +kernel) (by decide) (fun h_38 => ?_) (fun h_38 => ?_)
                          · refine jblk hF [(.iconst 0, 1), (.iadd, 1), (.istore_n 3, 1), (.iinc 5 1, 3)] (by decide +kernel) (pc' := 177) (lo' := [(5, (0, n + 1)), (3, (0, k + 0)), (0, (2, 35)), (1, (0, p)), (2, (0, q)), (4, (0, d)), (6, (0, s))]) (st' := []) rfl ?_
                            refine jgoto hF (off := (-140)) 37 (by decide +kernel) (by decide) ?_
                            refine jsub [2, 3, 4, 1, 5, 0] rfl ?_
                            refine ih_9 (k + 0) d (n + 1) ?_ ?_ ?_ ?_
                            · omega
                            · exact ⟨by rw [hxN_s (by omega)]; omega, by omega, by omega⟩
                            · rw [heN_s (by omega), hxN_s (by omega), ← hn7, ← hn8]; first | (rw [if_pos (by omega)]; omega) | (rw [if_neg (by omega)]; omega)
                            · omega
                          · refine jblk hF [(.iconst 1, 1)] (by decide +kernel) (pc' := 168) (lo' := [(0, (2, 35)), (1, (0, p)), (2, (0, q)), (3, (0, k)), (4, (0, d)), (5, (0, n)), (6, (0, s))]) (st' := [(0, 1), (0, k)]) rfl ?_
                            refine jgoto hF (off := 4) 172 (by decide +kernel) (by decide) ?_
                            refine jblk hF [(.iadd, 1), (.istore_n 3, 1), (.iinc 5 1, 3)] (by decide +kernel) (pc' := 177) (lo' := [(5, (0, n + 1)), (3, (0, k + 1)), (0, (2, 35)), (1, (0, p)), (2, (0, q)), (4, (0, d)), (6, (0, s))]) (st' := []) rfl ?_
                            refine jgoto hF (off := (-140)) 37 (by decide +kernel) (by decide) ?_
                            refine jsub [2, 3, 4, 1, 5, 0] rfl ?_
                            refine ih_9 (k + 1) d (n + 1) ?_ ?_ ?_ ?_
                            · omega
                            · exact ⟨by rw [hxN_s (by omega)]; omega, by omega, by omega⟩
                            · rw [heN_s (by omega), hxN_s (by omega), ← hn7, ← hn8]; first | (rw [if_pos (by omega)]; omega) | (rw [if_neg (by omega)]; omega)
                            · omega
                        · refine jif_eq hF (off := 25) 171 (by decide +kernel) (by decide) (by decide) (fun _ => ?_) (fun h => absurd h (by decide))
                          refine jblk hF [(.iconst 0, 1), (.iadd, 1), (.istore_n 3, 1), (.iinc 5 1, 3)] (by decide +kernel) (pc' := 177) (lo' := [(5, (0, n + 1)), (3, (0, k + 0)), (0, (2, 35)), (1, (0, p)), (2, (0, q)), (4, (0, d)), (6, (0, s))]) (st' := []) rfl ?_
                          refine jgoto hF (off := (-140)) 37 (by decide +kernel) (by decide) ?_
                          refine jsub [2, 3, 4, 1, 5, 0] rfl ?_
                          refine ih_9 (k + 0) d (n + 1) ?_ ?_ ?_ ?_
                          · omega
                          · exact ⟨by rw [hxN_s (by omega)]; omega, by omega, by omega⟩
                          · rw [heN_s (by omega), hxN_s (by omega), ← hn7, ← hn8]; first | (rw [if_pos (by omega)]; omega) | (rw [if_neg (by omega)]; omega)
                          · omega
                    · refine jblk hF [(.iload 4, 2)] (by decide +kernel) (pc' := 84) (lo' := [(0, (2, 35)), (1, (0, p)), (2, (0, q)), (3, (0, k)), (4, (0, d)), (5, (0, n)), (6, (0, s))]) (st' := [(0, d)]) rfl ?_
                      refine jif_ne hF (off := 36) 120 (by decide +kernel) (by decide) (by omega) (fun h_40 => ?_) (fun h_40 => ?_)
                      · refine jblk hF [(.iconst 1, 1)] (by decide +kernel) (pc' := 121) (lo' := [(0, (2, 35)), (1, (0, p)), (2, (0, q)), (3, (0, k)), (4, (0, d)), (5, (0, n)), (6, (0, s))]) (st' := [(0, 1)]) rfl ?_
                        refine jgoto hF (off := 4) 125 (by decide +kernel) (by decide) ?_
                        refine jblk hF [(.istore 4, 2), (.iinc 6 1, 3)] (by decide +kernel) (pc' := 130) (lo' := [(6, (0, s + 1)), (4, (0, 1)), (0, (2, 35)), (1, (0, p)), (2, (0, q)), (3, (0, k)), (5, (0, n))]) (st' := []) rfl ?_
                        refine jgoto hF (off := (-57)) 73 (by decide +kernel) (by decide) ?_
                        refine jsub [2, 3, 4, 5, 1, 6, 0] rfl ?_
                        refine ih_31 1 (s + 1) ?_ ?_ ?_
                        · omega
                        · exact ⟨by rw [sxN_s (by omega)]; first | exact (if_pos (by omega)).symm | exact (if_neg (by omega)).symm, by omega, by omega⟩
                        · omega
                      · have es3 := e63 s
                        have es4 := e64 s
                        have es7 := e67 s
                        have es8 := e68 s
                        have hs := hSL.2.2 s (by omega) (by omega)
                        refine jblk hF [(.aload_n 0, 1)] (by decide +kernel) (pc' := 88) (lo' := [(0, (2, 35)), (1, (0, p)), (2, (0, q)), (3, (0, k)), (4, (0, d)), (5, (0, n)), (6, (0, s))]) (st' := [(2, 35)]) rfl ?_
                        refine jget hF 13 39 2 39 rfl (by decide) (by decide) rfl wd_1502 (by decide +kernel) (by exact hS.k35) ?_
                        rw [SR.r39 hR_m_7]
                        refine jblk hF [(.iload 6, 2)] (by decide +kernel) (pc' := 93) (lo' := [(0, (2, 35)), (1, (0, p)), (2, (0, q)), (3, (0, k)), (4, (0, d)), (5, (0, n)), (6, (0, s))]) (st' := [(0, s), (2, 63)]) rfl ?_
                        refine jiald hF (by decide +kernel) (by exact hS.k63) (by omega) (by have := hS.l63; omega) ?_
                        refine jblk hF [(.iload_n 1, 1)] (by decide +kernel) (pc' := 95) (lo' := [(0, (2, 35)), (1, (0, p)), (2, (0, q)), (3, (0, k)), (4, (0, d)), (5, (0, n)), (6, (0, s))]) (st' := [(0, p), (0, m_7 63 s)]) rfl ?_
                        refine jicmp_ne hF (off := 29) 124 (by decide +kernel) (by decide) (by omega) (by omega) (fun h_41 => ?_) (fun h_41 => ?_)
                        · refine jblk hF [(.iconst 0, 1), (.istore 4, 2), (.iinc 6 1, 3)] (by decide +kernel) (pc' := 130) (lo' := [(6, (0, s + 1)), (4, (0, 0)), (0, (2, 35)), (1, (0, p)), (2, (0, q)), (3, (0, k)), (5, (0, n))]) (st' := []) rfl ?_
                          refine jgoto hF (off := (-57)) 73 (by decide +kernel) (by decide) ?_
                          refine jsub [2, 3, 4, 5, 1, 6, 0] rfl ?_
                          refine ih_31 0 (s + 1) ?_ ?_ ?_
                          · omega
                          · exact ⟨by rw [sxN_s (by omega)]; first | exact (if_pos (by omega)).symm | exact (if_neg (by omega)).symm, by omega, by omega⟩
                          · omega
                        · have hsp : mem 63 s = p := by omega
                          unfold SL at hs
                          rw [hsp] at hs
                          refine jblk hF [(.aload_n 0, 1)] (by decide +kernel) (pc' := 99) (lo' := [(0, (2, 35)), (1, (0, p)), (2, (0, q)), (3, (0, k)), (4, (0, d)), (5, (0, n)), (6, (0, s))]) (st' := [(2, 35)]) rfl ?_
                          refine jget hF 13 40 2 40 rfl (by decide) (by decide) rfl wd_1503 (by decide +kernel) (by exact hS.k35) ?_
                          rw [SR.r40 hR_m_7]
                          refine jblk hF [(.iload 6, 2)] (by decide +kernel) (pc' := 104) (lo' := [(0, (2, 35)), (1, (0, p)), (2, (0, q)), (3, (0, k)), (4, (0, d)), (5, (0, n)), (6, (0, s))]) (st' := [(0, s), (2, 64)]) rfl ?_
                          refine jiald hF (by decide +kernel) (by exact hS.k64) (by omega) (by have := hS.l64; omega) ?_
                          refine jblk hF [(.iload 5, 2)] (by decide +kernel) (pc' := 107) (lo' := [(0, (2, 35)), (1, (0, p)), (2, (0, q)), (3, (0, k)), (4, (0, d)), (5, (0, n)), (6, (0, s))]) (st' := [(0, n), (0, m_7 64 s)]) rfl ?_
                          refine jicmp_ne hF (off := 17) 124 (by decide +kernel) (by decide) (by omega) (by omega) (fun h_42 => ?_) (fun h_42 => ?_)
                          · refine jblk hF [(.iconst 0, 1), (.istore 4, 2), (.iinc 6 1, 3)] (by decide +kernel) (pc' := 130) (lo' := [(6, (0, s + 1)), (4, (0, 0)), (0, (2, 35)), (1, (0, p)), (2, (0, q)), (3, (0, k)), (5, (0, n))]) (st' := []) rfl ?_
                            refine jgoto hF (off := (-57)) 73 (by decide +kernel) (by decide) ?_
                            refine jsub [2, 3, 4, 5, 1, 6, 0] rfl ?_
                            refine ih_31 0 (s + 1) ?_ ?_ ?_
                            · omega
                            · exact ⟨by rw [sxN_s (by omega)]; first | exact (if_pos (by omega)).symm | exact (if_neg (by omega)).symm, by omega, by omega⟩
                            · omega
                          · refine jblk hF [(.aload_n 0, 1), (.iload 6, 2), (.iload_n 2, 1)] (by decide +kernel) (pc' := 114) (lo' := [(0, (2, 35)), (1, (0, p)), (2, (0, q)), (3, (0, k)), (4, (0, d)), (5, (0, n)), (6, (0, s))]) (st' := [(0, q), (0, s), (2, 35)]) rfl ?_
                            refine jcallV hF (c_X12_counts hG hS hR_m_7 s q (by omega) (by omega) (by omega) (by omega)) MW_X12_counts 13 (by decide) (by exact hS.k35) wd_2012 wd_2014 wd_p86 (by decide +kernel) [] rfl rfl (by decide) (Nat.le_of_ble_eq_true rfl) (by decide) (kB (fun h_43 => ?_) (fun h_43 => ?_))
                            · refine jif_eq hF (off := 7) 124 (by decide +kernel) (by decide) (by decide) (fun h => absurd h (by decide)) (fun _ => ?_)
                              refine jblk hF [(.iconst 1, 1)] (by decide +kernel) (pc' := 121) (lo' := [(0, (2, 35)), (1, (0, p)), (2, (0, q)), (3, (0, k)), (4, (0, d)), (5, (0, n)), (6, (0, s))]) (st' := [(0, 1)]) rfl ?_
                              refine jgoto hF (off := 4) 125 (by decide +kernel) (by decide) ?_
                              refine jblk hF [(.istore 4, 2), (.iinc 6 1, 3)] (by decide +kernel) (pc' := 130) (lo' := [(6, (0, s + 1)), (4, (0, 1)), (0, (2, 35)), (1, (0, p)), (2, (0, q)), (3, (0, k)), (5, (0, n))]) (st' := []) rfl ?_
                              refine jgoto hF (off := (-57)) 73 (by decide +kernel) (by decide) ?_
                              refine jsub [2, 3, 4, 5, 1, 6, 0] rfl ?_
                              refine ih_31 1 (s + 1) ?_ ?_ ?_
                              · omega
                              · exact ⟨by rw [sxN_s (by omega)]; first | exact (if_pos (by omega)).symm | exact (if_neg (by omega)).symm, by omega, by omega⟩
                              · omega
                            · refine jif_eq hF (off := 7) 124 (by decide +kernel) (by decide) (by decide) (fun _ => ?_) (fun h => absurd h (by decide))
                              refine jblk hF [(.iconst 0, 1), (.istore 4, 2), (.iinc 6 1, 3)] (by decide +kernel) (pc' := 130) (lo' := [(6, (0, s + 1)), (4, (0, 0)), (0, (2, 35)), (1, (0, p)), (2, (0, q)), (3, (0, k)), (5, (0, n))]) (st' := []) rfl ?_
                              refine jgoto hF (off := (-57)) 73 (by decide +kernel) (by decide) ?_
                              refine jsub [2, 3, 4, 5, 1, 6, 0] rfl ?_
                              refine ih_31 0 (s + 1) ?_ ?_ ?_
                              · omega
                              · exact ⟨by rw [sxN_s (by omega)]; first | exact (if_pos (by omega)).symm | exact (if_neg (by omega)).symm, by omega, by omega⟩
                              · omega
                refine jsub [2, 3, 4, 5, 1, 6, 0] rfl ?_
                refine L_32 _ 0 0 ?_ ?_ (Nat.lt_succ_self _)
                · omega
                · exact ⟨by rw [show (0 : Int).toNat = 0 from rfl, sxN]; first | exact (if_pos (by omega)).symm | exact (if_neg (by omega)).symm, by omega, by omega⟩
              · refine jblk hF [(.iconst 1, 1)] (by decide +kernel) (pc' := 64) (lo' := [(0, (2, 35)), (1, (0, p)), (2, (0, q)), (3, (0, k)), (4, (0, b)), (5, (0, n))]) (st' := [(0, 1)]) rfl ?_
                refine jgoto hF (off := 4) 68 (by decide +kernel) (by decide) ?_
                refine jblk hF [(.istore 4, 2), (.iconst 0, 1), (.istore 6, 2)] (by decide +kernel) (pc' := 73) (lo' := [(6, (0, 0)), (4, (0, 1)), (0, (2, 35)), (1, (0, p)), (2, (0, q)), (3, (0, k)), (5, (0, n))]) (st' := []) rfl ?_
                have L_47 : ∀ (fu_48 : Nat) (d : Int) (s : Int), (0 ≤ s ∧ s ≤ mem 35 45) → (d = sxN mem p q n (if hxN mem p q n.toNat ≠ 0 ∧ n % mem 52 p > 0 then 1 else 0) s.toNat ∧ 0 ≤ d ∧ d ≤ 1) →  (mem 35 45 - s).toNat < fu_48 → J z g 7 0 0 (QM z g 0 0 (pMR 0 (fun v mem' => SR mem' ∧ (((isPg mem p ∧ isKn mem q) → v = heN mem p q (mem 47 p).toNat ∧ FT mem mem') ∧ (¬ (isPg mem p ∧ isKn mem q) → v = -1 ∧ mem' = mem))) kd ln sz)) 73 [(0, (2, 35)), (1, (0, p)), (2, (0, q)), (3, (0, k)), (4, (0, d)), (5, (0, n)), (6, (0, s))] [] kd ln m_7 sz := by
                  intro fu_48
                  induction fu_48 with
                  | zero => intro d s _ _ hm; omega
                  | succ fu_48 ih_46 =>
                    intro d s hs1 hd hm2
                    refine jblk hF [(.iload 6, 2), (.aload_n 0, 1)] (by decide +kernel) (pc' := 76) (lo' := [(0, (2, 35)), (1, (0, p)), (2, (0, q)), (3, (0, k)), (4, (0, d)), (5, (0, n)), (6, (0, s))]) (st' := [(2, 35), (0, s)]) rfl ?_
                    refine jget hF 13 45 0 45 rfl (by decide) (by decide) rfl wd_1508 (by decide +kernel) (by exact hS.k35) ?_
                    refine jicmp_ge hF (off := 54) 133 (by decide +kernel) (by decide) (by omega) (by omega) (fun h_49 => ?_) (fun h_49 => ?_)
                    · have hn7 := hnum n (by omega) (by omega)
                      have hn8 := htru n (by omega) (by omega)
                      have hse : s = mem 35 45 := by omega
                      rw [hse] at hd
                      refine jblk hF [(.iload_n 3, 1), (.iload 4, 2)] (by decide +kernel) (pc' := 136) (lo' := [(0, (2, 35)), (1, (0, p)), (2, (0, q)), (3, (0, k)), (4, (0, d)), (5, (0, n)), (6, (0, s))]) (st' := [(0, d), (0, k)]) rfl ?_
                      refine jif_eq hF (off := 35) 171 (by decide +kernel) (by decide) (by omega) (fun h_50 => ?_) (fun h_50 => ?_)
                      · refine jblk hF [(.iconst 0, 1), (.iadd, 1), (.istore_n 3, 1), (.iinc 5 1, 3)] (by decide +kernel) (pc' := 177) (lo' := [(5, (0, n + 1)), (3, (0, k + 0)), (0, (2, 35)), (1, (0, p)), (2, (0, q)), (4, (0, d)), (6, (0, s))]) (st' := []) rfl ?_
                        refine jgoto hF (off := (-140)) 37 (by decide +kernel) (by decide) ?_
                        refine jsub [2, 3, 4, 1, 5, 0] rfl ?_
                        refine ih_9 (k + 0) d (n + 1) ?_ ?_ ?_ ?_
                        · omega
                        · exact ⟨by rw [hxN_s (by omega)]; omega, by omega, by omega⟩
                        · rw [heN_s (by omega), hxN_s (by omega), ← hn7, ← hn8]; first | (rw [if_pos (by omega)]; omega) | (rw [if_neg (by omega)]; omega)
                        · omega
                      · refine jblk hF [(.aload_n 0, 1), (.iload_n 1, 1), (.iload 5, 2)] (by decide +kernel) (pc' := 143) (lo' := [(0, (2, 35)), (1, (0, p)), (2, (0, q)), (3, (0, k)), (4, (0, d)), (5, (0, n)), (6, (0, s))]) (st' := [(0, n), (0, p), (2, 35), (0, k)]) rfl ?_
                        refine jcallV hF (c_X12_isMade hG hS hR_m_7 p n (by first | omega | exact hE.fPG hp | exact (EQ36.f _ _).fPG hp) (by omega)) MW_X12_isMade 13 (by decide) (by exact hS.k35) wd_1942 wd_1944 wd_p74 (by decide +kernel) [(0, k)] rfl rfl (by decide) (Nat.le_of_ble_eq_true rfl) (by decide) (kB (fun h_51 => ?_) (fun h_51 => ?_))
                        · refine jif_eq hF (off := 25) 171 (by decide +kernel) (by decide) (by decide) (fun h => absurd h (by decide)) (fun _ => ?_)
                          refine jblk hF [(.aload_n 0, 1)] (by decide +kernel) (pc' := 150) (lo' := [(0, (2, 35)), (1, (0, p)), (2, (0, q)), (3, (0, k)), (4, (0, d)), (5, (0, n)), (6, (0, s))]) (st' := [(2, 35), (0, k)]) rfl ?_
                          refine jget hF 13 37 2 37 rfl (by decide) (by decide) rfl wd_1500 (by decide +kernel) (by exact hS.k35) ?_
                          rw [SR.r37 hR_m_7]
                          refine jblk hF [(.iload 5, 2)] (by decide +kernel) (pc' := 155) (lo' := [(0, (2, 35)), (1, (0, p)), (2, (0, q)), (3, (0, k)), (4, (0, d)), (5, (0, n)), (6, (0, s))]) (st' := [(0, n), (2, 61), (0, k)]) rfl ?_
                          refine jlald hF (by decide +kernel) (by exact hS.k61) (by omega) (by have := hS.l61; omega) ?_
                          refine jblk hF [(.aload_n 0, 1)] (by decide +kernel) (pc' := 157) (lo' := [(0, (2, 35)), (1, (0, p)), (2, (0, q)), (3, (0, k)), (4, (0, d)), (5, (0, n)), (6, (0, s))]) (st' := [(2, 35), (1, m_7 61 n), (0, k)]) rfl ?_
                          refine jget hF 13 47 2 47 rfl (by decide) (by decide) rfl wd_1510 (by decide +kernel) (by exact hS.k35) ?_
                          rw [SR.r47 hR_m_7]
                          refine jblk hF [(.iload 5, 2)] (by decide +kernel) (pc' := 162) (lo' := [(0, (2, 35)), (1, (0, p)), (2, (0, q)), (3, (0, k)), (4, (0, d)), (5, (0, n)), (6, (0, s))]) (st' := [(0, n), (2, 69), (1, m_7 61 n), (0, k)]) rfl ?_
                          refine jlald hF (by decide +kernel) (by exact hS.k69) (by omega) (by have := hS.l69; omega) ?_
                          refine jlcmpW_ne hF (off := 7) 171 (by decide +kernel) (by decide +kernel) (by decide) (fun h_53 => ?_) (fun h_53 => ?_)
                          · refine jblk hF [(.iconst 0, 1), (.iadd, 1), (.istore_n 3, 1), (.iinc 5 1, 3)] (by decide +kernel) (pc' := 177) (lo' := [(5, (0, n + 1)), (3, (0, k + 0)), (0, (2, 35)), (1, (0, p)), (2, (0, q)), (4, (0, d)), (6, (0, s))]) (st' := []) rfl ?_
                            refine jgoto hF (off := (-140)) 37 (by decide +kernel) (by decide) ?_
                            refine jsub [2, 3, 4, 1, 5, 0] rfl ?_
                            refine ih_9 (k + 0) d (n + 1) ?_ ?_ ?_ ?_
                            · omega
                            · exact ⟨by rw [hxN_s (by omega)]; omega, by omega, by omega⟩
                            · rw [heN_s (by omega), hxN_s (by omega), ← hn7, ← hn8]; first | (rw [if_pos (by omega)]; omega) | (rw [if_neg (by omega)]; omega)
                            · omega
                          · refine jblk hF [(.iconst 1, 1)] (by decide +kernel) (pc' := 168) (lo' := [(0, (2, 35)), (1, (0, p)), (2, (0, q)), (3, (0, k)), (4, (0, d)), (5, (0, n)), (6, (0, s))]) (st' := [(0, 1), (0, k)]) rfl ?_
                            refine jgoto hF (off := 4) 172 (by decide +kernel) (by decide) ?_
                            refine jblk hF [(.iadd, 1), (.istore_n 3, 1), (.iinc 5 1, 3)] (by decide +kernel) (pc' := 177) (lo' := [(5, (0, n + 1)), (3, (0, k + 1)), (0, (2, 35)), (1, (0, p)), (2, (0, q)), (4, (0, d)), (6, (0, s))]) (st' := []) rfl ?_
                            refine jgoto hF (off := (-140)) 37 (by decide +kernel) (by decide) ?_
                            refine jsub [2, 3, 4, 1, 5, 0] rfl ?_
                            refine ih_9 (k + 1) d (n + 1) ?_ ?_ ?_ ?_
                            · omega
                            · exact ⟨by rw [hxN_s (by omega)]; omega, by omega, by omega⟩
                            · rw [heN_s (by omega), hxN_s (by omega), ← hn7, ← hn8]; first | (rw [if_pos (by omega)]; omega) | (rw [if_neg (by omega)]; omega)
                            · omega
                        · refine jif_eq hF (off := 25) 171 (by decide +kernel) (by decide) (by decide) (fun _ => ?_) (fun h => absurd h (by decide))
                          refine jblk hF [(.iconst 0, 1), (.iadd, 1), (.istore_n 3, 1), (.iinc 5 1, 3)] (by decide +kernel) (pc' := 177) (lo' := [(5, (0, n + 1)), (3, (0, k + 0)), (0, (2, 35)), (1, (0, p)), (2, (0, q)), (4, (0, d)), (6, (0, s))]) (st' := []) rfl ?_
                          refine jgoto hF (off := (-140)) 37 (by decide +kernel) (by decide) ?_
                          refine jsub [2, 3, 4, 1, 5, 0] rfl ?_
                          refine ih_9 (k + 0) d (n + 1) ?_ ?_ ?_ ?_
                          · omega
                          · exact ⟨by rw [hxN_s (by omega)]; omega, by omega, by omega⟩
                          · rw [heN_s (by omega), hxN_s (by omega), ← hn7, ← hn8]; first | (rw [if_pos (by omega)]; omega) | (rw [if_neg (by omega)]; omega)
                          · omega
                    · refine jblk hF [(.iload 4, 2)] (by decide +kernel) (pc' := 84) (lo' := [(0, (2, 35)), (1, (0, p)), (2, (0, q)), (3, (0, k)), (4, (0, d)), (5, (0, n)), (6, (0, s))]) (st' := [(0, d)]) rfl ?_
                      refine jif_ne hF (off := 36) 120 (by decide +kernel) (by decide) (by omega) (fun h_55 => ?_) (fun h_55 => ?_)
                      · refine jblk hF [(.iconst 1, 1)] (by decide +kernel) (pc' := 121) (lo' := [(0, (2, 35)), (1, (0, p)), (2, (0, q)), (3, (0, k)), (4, (0, d)), (5, (0, n)), (6, (0, s))]) (st' := [(0, 1)]) rfl ?_
                        refine jgoto hF (off := 4) 125 (by decide +kernel) (by decide) ?_
                        refine jblk hF [(.istore 4, 2), (.iinc 6 1, 3)] (by decide +kernel) (pc' := 130) (lo' := [(6, (0, s + 1)), (4, (0, 1)), (0, (2, 35)), (1, (0, p)), (2, (0, q)), (3, (0, k)), (5, (0, n))]) (st' := []) rfl ?_
                        refine jgoto hF (off := (-57)) 73 (by decide +kernel) (by decide) ?_
                        refine jsub [2, 3, 4, 5, 1, 6, 0] rfl ?_
                        refine ih_46 1 (s + 1) ?_ ?_ ?_
                        · omega
                        · exact ⟨by rw [sxN_s (by omega)]; first | exact (if_pos (by omega)).symm | exact (if_neg (by omega)).symm, by omega, by omega⟩
                        · omega
                      · have es3 := e63 s
                        have es4 := e64 s
                        have es7 := e67 s
                        have es8 := e68 s
                        have hs := hSL.2.2 s (by omega) (by omega)
                        refine jblk hF [(.aload_n 0, 1)] (by decide +kernel) (pc' := 88) (lo' := [(0, (2, 35)), (1, (0, p)), (2, (0, q)), (3, (0, k)), (4, (0, d)), (5, (0, n)), (6, (0, s))]) (st' := [(2, 35)]) rfl ?_
                        refine jget hF 13 39 2 39 rfl (by decide) (by decide) rfl wd_1502 (by decide +kernel) (by exact hS.k35) ?_
                        rw [SR.r39 hR_m_7]
                        refine jblk hF [(.iload 6, 2)] (by decide +kernel) (pc' := 93) (lo' := [(0, (2, 35)), (1, (0, p)), (2, (0, q)), (3, (0, k)), (4, (0, d)), (5, (0, n)), (6, (0, s))]) (st' := [(0, s), (2, 63)]) rfl ?_
                        refine jiald hF (by decide +kernel) (by exact hS.k63) (by omega) (by have := hS.l63; omega) ?_
                        refine jblk hF [(.iload_n 1, 1)] (by decide +kernel) (pc' := 95) (lo' := [(0, (2, 35)), (1, (0, p)), (2, (0, q)), (3, (0, k)), (4, (0, d)), (5, (0, n)), (6, (0, s))]) (st' := [(0, p), (0, m_7 63 s)]) rfl ?_
                        refine jicmp_ne hF (off := 29) 124 (by decide +kernel) (by decide) (by omega) (by omega) (fun h_56 => ?_) (fun h_56 => ?_)
                        · refine jblk hF [(.iconst 0, 1), (.istore 4, 2), (.iinc 6 1, 3)] (by decide +kernel) (pc' := 130) (lo' := [(6, (0, s + 1)), (4, (0, 0)), (0, (2, 35)), (1, (0, p)), (2, (0, q)), (3, (0, k)), (5, (0, n))]) (st' := []) rfl ?_
                          refine jgoto hF (off := (-57)) 73 (by decide +kernel) (by decide) ?_
                          refine jsub [2, 3, 4, 5, 1, 6, 0] rfl ?_
                          refine ih_46 0 (s + 1) ?_ ?_ ?_
                          · omega
                          · exact ⟨by rw [sxN_s (by omega)]; first | exact (if_pos (by omega)).symm | exact (if_neg (by omega)).symm, by omega, by omega⟩
                          · omega
                        · have hsp : mem 63 s = p := by omega
                          unfold SL at hs
                          rw [hsp] at hs
                          refine jblk hF [(.aload_n 0, 1)] (by decide +kernel) (pc' := 99) (lo' := [(0, (2, 35)), (1, (0, p)), (2, (0, q)), (3, (0, k)), (4, (0, d)), (5, (0, n)), (6, (0, s))]) (st' := [(2, 35)]) rfl ?_
                          refine jget hF 13 40 2 40 rfl (by decide) (by decide) rfl wd_1503 (by decide +kernel) (by exact hS.k35) ?_
                          rw [SR.r40 hR_m_7]
                          refine jblk hF [(.iload 6, 2)] (by decide +kernel) (pc' := 104) (lo' := [(0, (2, 35)), (1, (0, p)), (2, (0, q)), (3, (0, k)), (4, (0, d)), (5, (0, n)), (6, (0, s))]) (st' := [(0, s), (2, 64)]) rfl ?_
                          refine jiald hF (by decide +kernel) (by exact hS.k64) (by omega) (by have := hS.l64; omega) ?_
                          refine jblk hF [(.iload 5, 2)] (by decide +kernel) (pc' := 107) (lo' := [(0, (2, 35)), (1, (0, p)), (2, (0, q)), (3, (0, k)), (4, (0, d)), (5, (0, n)), (6, (0, s))]) (st' := [(0, n), (0, m_7 64 s)]) rfl ?_
                          refine jicmp_ne hF (off := 17) 124 (by decide +kernel) (by decide) (by omega) (by omega) (fun h_57 => ?_) (fun h_57 => ?_)
                          · refine jblk hF [(.iconst 0, 1), (.istore 4, 2), (.iinc 6 1, 3)] (by decide +kernel) (pc' := 130) (lo' := [(6, (0, s + 1)), (4, (0, 0)), (0, (2, 35)), (1, (0, p)), (2, (0, q)), (3, (0, k)), (5, (0, n))]) (st' := []) rfl ?_
                            refine jgoto hF (off := (-57)) 73 (by decide +kernel) (by decide) ?_
                            refine jsub [2, 3, 4, 5, 1, 6, 0] rfl ?_
                            refine ih_46 0 (s + 1) ?_ ?_ ?_
                            · omega
                            · exact ⟨by rw [sxN_s (by omega)]; first | exact (if_pos (by omega)).symm | exact (if_neg (by omega)).symm, by omega, by omega⟩
                            · omega
                          · refine jblk hF [(.aload_n 0, 1), (.iload 6, 2), (.iload_n 2, 1)] (by decide +kernel) (pc' := 114) (lo' := [(0, (2, 35)), (1, (0, p)), (2, (0, q)), (3, (0, k)), (4, (0, d)), (5, (0, n)), (6, (0, s))]) (st' := [(0, q), (0, s), (2, 35)]) rfl ?_
                            refine jcallV hF (c_X12_counts hG hS hR_m_7 s q (by omega) (by omega) (by omega) (by omega)) MW_X12_counts 13 (by decide) (by exact hS.k35) wd_2012 wd_2014 wd_p86 (by decide +kernel) [] rfl rfl (by decide) (Nat.le_of_ble_eq_true rfl) (by decide) (kB (fun h_58 => ?_) (fun h_58 => ?_))
                            · refine jif_eq hF (off := 7) 124 (by decide +kernel) (by decide) (by decide) (fun h => absurd h (by decide)) (fun _ => ?_)
                              refine jblk hF [(.iconst 1, 1)] (by decide +kernel) (pc' := 121) (lo' := [(0, (2, 35)), (1, (0, p)), (2, (0, q)), (3, (0, k)), (4, (0, d)), (5, (0, n)), (6, (0, s))]) (st' := [(0, 1)]) rfl ?_
                              refine jgoto hF (off := 4) 125 (by decide +kernel) (by decide) ?_
                              refine jblk hF [(.istore 4, 2), (.iinc 6 1, 3)] (by decide +kernel) (pc' := 130) (lo' := [(6, (0, s + 1)), (4, (0, 1)), (0, (2, 35)), (1, (0, p)), (2, (0, q)), (3, (0, k)), (5, (0, n))]) (st' := []) rfl ?_
                              refine jgoto hF (off := (-57)) 73 (by decide +kernel) (by decide) ?_
                              refine jsub [2, 3, 4, 5, 1, 6, 0] rfl ?_
                              refine ih_46 1 (s + 1) ?_ ?_ ?_
                              · omega
                              · exact ⟨by rw [sxN_s (by omega)]; first | exact (if_pos (by omega)).symm | exact (if_neg (by omega)).symm, by omega, by omega⟩
                              · omega
                            · refine jif_eq hF (off := 7) 124 (by decide +kernel) (by decide) (by decide) (fun _ => ?_) (fun h => absurd h (by decide))
                              refine jblk hF [(.iconst 0, 1), (.istore 4, 2), (.iinc 6 1, 3)] (by decide +kernel) (pc' := 130) (lo' := [(6, (0, s + 1)), (4, (0, 0)), (0, (2, 35)), (1, (0, p)), (2, (0, q)), (3, (0, k)), (5, (0, n))]) (st' := []) rfl ?_
                              refine jgoto hF (off := (-57)) 73 (by decide +kernel) (by decide) ?_
                              refine jsub [2, 3, 4, 5, 1, 6, 0] rfl ?_
                              refine ih_46 0 (s + 1) ?_ ?_ ?_
                              · omega
                              · exact ⟨by rw [sxN_s (by omega)]; first | exact (if_pos (by omega)).symm | exact (if_neg (by omega)).symm, by omega, by omega⟩
                              · omega
                refine jsub [2, 3, 4, 5, 1, 6, 0] rfl ?_
                refine L_47 _ 1 0 ?_ ?_ (Nat.lt_succ_self _)
                · omega
                · exact ⟨by rw [show (0 : Int).toNat = 0 from rfl, sxN]; first | exact (if_pos (by omega)).symm | exact (if_neg (by omega)).symm, by omega, by omega⟩
      refine jsub [3, 4, 5, 2, 1, 0] rfl ?_
      refine L_10 _ 0 0 0 ?_ ?_ ?_ (Nat.lt_succ_self _)
      · omega
      · exact ⟨rfl, by omega, by omega⟩
      · rfl
    · refine jif_ne hF (off := 5) 18 (by decide +kernel) (by decide) (by decide) (fun h => absurd h (by decide)) (fun _ => ?_)
      refine jblk hF [(.iconst (-1), 1)] (by decide +kernel) (pc' := 17) (lo' := [(0, (2, 35)), (1, (0, p)), (2, (0, q))]) (st' := [(0, (-1))]) rfl ?_
      refine jiret hF hr (by decide +kernel) ?_
      exact lMR ⟨hR, by first | exact ⟨fun h => absurd h (by omega), fun _ => ⟨rfl, rfl⟩⟩ | exact ⟨fun _ => ⟨by rw [hk]; congr 1; omega, hF2⟩, fun h => absurd (by omega) h⟩⟩
  · refine jif_eq hF (off := 11) 16 (by decide +kernel) (by decide) (by decide) (fun _ => ?_) (fun h => absurd h (by decide))
    refine jblk hF [(.iconst (-1), 1)] (by decide +kernel) (pc' := 17) (lo' := [(0, (2, 35)), (1, (0, p)), (2, (0, q))]) (st' := [(0, (-1))]) rfl ?_
    refine jiret hF hr (by decide +kernel) ?_
    exact lMR ⟨hR, by first | exact ⟨fun h => absurd h (by omega), fun _ => ⟨rfl, rfl⟩⟩ | exact ⟨fun _ => ⟨by rw [hk]; congr 1; omega, hF2⟩, fun h => absurd (by omega) h⟩⟩
set_option maxHeartbeats 4000000 in
set_option maxRecDepth 100000 in
theorem c_X12_spread {l : Launch} {g : GP} (hG : GH g) {kd : Int → Nat} {ln : Int → Int} {mem : Int → Int → Int} {sz : Nat} (hS : SK kd ln) (hR : SR mem) (p n c : Int) (h_p : InI p) (h_n : InI n) (h_c : InI c) (hPS : PGS mem) : MT l g yX12_spread cX12_spread 6 (some .int) 7 0 0 [(2, 35), (0, p), (0, n), (0, c)] kd ln mem sz (pMR 0 (fun v mem' => SR mem' ∧ (((isLn mem p n ∧ n % mem 52 p > mem 49 p ∧ (c = 9 ∨ (0 ≤ c ∧ c ≤ mem 49 p - 1))) → v = spN mem p (oneA (5 * n + slotV c) 1) (mem 47 p).toNat ∧ FT mem mem') ∧ (¬ (isLn mem p n ∧ n % mem 52 p > mem 49 p ∧ (c = 9 ∨ (0 ≤ c ∧ c ≤ mem 49 p - 1))) → v = -1 ∧ mem' = mem))) kd ln sz) := by
  refine MT_of hG (by decide +kernel) (Nat.le_of_ble_eq_true rfl) (fun z hF hr hn => ?_)
  refine jblk hF [(.aload_n 0, 1), (.iload_n 1, 1), (.iload_n 2, 1)] (by decide +kernel) (pc' := 3) (lo' := [(0, (2, 35)), (1, (0, p)), (2, (0, n)), (3, (0, c))]) (st' := [(0, n), (0, p), (2, 35)]) rfl ?_
  refine jcallV hF (c_X12_isLine hG hS hR p n (by omega) (by omega) (by exact hPS)) MW_X12_isLine 13 (by decide) (by exact hS.k35) wd_1954 wd_1956 wd_p76 (by decide +kernel) [] rfl rfl (by decide) (Nat.le_of_ble_eq_true rfl) (by decide) (kB (fun h_1 => ?_) (fun h_1 => ?_))
  · refine jif_eq hF (off := 21) 27 (by decide +kernel) (by decide) (by decide) (fun h => absurd h (by decide)) (fun _ => ?_)
    have hp := hPS.2.2 p (by omega) (by omega)
    refine jblk hF [(.aload_n 0, 1), (.iload_n 1, 1), (.iload_n 2, 1)] (by decide +kernel) (pc' := 12) (lo' := [(0, (2, 35)), (1, (0, p)), (2, (0, n)), (3, (0, c))]) (st' := [(0, n), (0, p), (2, 35)]) rfl ?_
    refine jcallV hF (c_X12_isMade hG hS hR p n (by first | omega | exact hE.fPG hp | exact (EQ36.f _ _).fPG hp) (by omega)) MW_X12_isMade 13 (by decide) (by exact hS.k35) wd_1942 wd_1944 wd_p74 (by decide +kernel) [] rfl rfl (by decide) (Nat.le_of_ble_eq_true rfl) (by decide) (kB (fun h_3 => ?_) (fun h_3 => ?_))
    · refine jif_eq hF (off := 12) 27 (by decide +kernel) (by decide) (by decide) (fun h => absurd h (by decide)) (fun _ => ?_)
      refine jblk hF [(.aload_n 0, 1), (.iload_n 1, 1), (.iload_n 3, 1)] (by decide +kernel) (pc' := 21) (lo' := [(0, (2, 35)), (1, (0, p)), (2, (0, n)), (3, (0, c))]) (st' := [(0, c), (0, p), (2, 35)]) rfl ?_
      refine jcallV hF (c_X12_isColumn hG hS hR p c (by first | omega | exact hE.fPG hp | exact (EQ36.f _ _).fPG hp) (by omega)) MW_X12_isColumn 13 (by decide) (by exact hS.k35) wd_1966 wd_1968 wd_p78 (by decide +kernel) [] rfl rfl (by decide) (Nat.le_of_ble_eq_true rfl) (by decide) (kB (fun h_5 => ?_) (fun h_5 => ?_))
      · refine jif_ne hF (off := 5) 29 (by decide +kernel) (by decide) (by decide) (fun _ => ?_) (fun h => absurd h (by decide))
        have hsl : 0 ≤ slotV c ∧ slotV c ≤ 4 := by unfold slotV; split <;> omega
        refine jblk hF [(.aload_n 0, 1), (.iload_n 1, 1)] (by decide +kernel) (pc' := 31) (lo' := [(0, (2, 35)), (1, (0, p)), (2, (0, n)), (3, (0, c))]) (st' := [(0, p), (2, 35)]) rfl ?_
        refine jcallV hF (c_X12_keepTruth hG hS hR p (by first | omega | exact hE.fPG hp | exact (EQ36.f _ _).fPG hp)) MW_X12_keepTruth 13 (by decide) (by exact hS.k35) wd_2100 wd_2102 wd_p94 (by decide +kernel) [] rfl rfl (by decide) (Nat.le_of_ble_eq_true rfl) (by decide) (kMV (fun m_7 h_8 => ?_))
        obtain ⟨hR_m_7, h_8⟩ := h_8
        have hT := h_8
        have hE1 : EQ69 mem m_7 := hT.1.e
        have hp1 := hE1.fPG hp
        refine jblk hF [(.aload_n 0, 1)] (by decide +kernel) (pc' := 35) (lo' := [(0, (2, 35)), (1, (0, p)), (2, (0, n)), (3, (0, c))]) (st' := [(2, 35)]) rfl ?_
        refine jcallV hF (c_X12_clear hG hS hR_m_7) MW_X12_clear 13 (by decide) (by exact hS.k35) wd_1988 wd_1990 wd_p81 (by decide +kernel) [] rfl rfl (by decide) (Nat.le_of_ble_eq_true rfl) (by decide) (kMV (fun m_9 h_10 => ?_))
        obtain ⟨hR_m_9, h_10⟩ := h_10
        have hcl := h_10
        have hp9 : PG (set2 m_9 59 (5 * n + slotV c) 1) p := PG_congr (fun a j q1 q2 q3 q4 => by rw [s2_a q1]; exact hcl.1 a j q1) hp1
        refine jblk hF [(.aload_n 0, 1)] (by decide +kernel) (pc' := 39) (lo' := [(0, (2, 35)), (1, (0, p)), (2, (0, n)), (3, (0, c))]) (st' := [(2, 35)]) rfl ?_
        refine jget hF 13 35 2 35 rfl (by decide) (by decide) rfl wd_1498 (by decide +kernel) (by exact hS.k35) ?_
        rw [SR.r35 hR_m_9]
        refine jblk hF [(.iconst 5, 1), (.iload_n 2, 1), (.imul, 1), (.iload_n 3, 1)] (by decide +kernel) (pc' := 46) (lo' := [(0, (2, 35)), (1, (0, p)), (2, (0, n)), (3, (0, c))]) (st' := [(0, c), (0, 5 * n), (2, 59)]) rfl ?_
        refine jcallS hF (c_X12_slot hG c (by omega)) MW_X12_slot wd_2016 wd_2017 (by decide +kernel) [(0, 5 * n), (2, 59)] rfl rfl (by decide) (Nat.le_of_ble_eq_true rfl) (by decide) (kV ?_)
        refine jblk hF [(.iadd, 1)] (by decide +kernel) (pc' := 50) (lo' := [(0, (2, 35)), (1, (0, p)), (2, (0, n)), (3, (0, c))]) (st' := [(0, (5 * n) + (slotV c)), (2, 59)]) rfl ?_
        refine jlconst hF (n := 1) 1 rfl (by decide +kernel) ?_
        refine jlast hF (by decide +kernel) (by decide) (by exact hS.k59) (by omega) (by have := hS.l59; omega) ?_
        refine jblk hF [(.aload_n 0, 1), (.iload_n 1, 1)] (by decide +kernel) (pc' := 54) (lo' := [(0, (2, 35)), (1, (0, p)), (2, (0, n)), (3, (0, c))]) (st' := [(0, p), (2, 35)]) rfl ?_
        refine jcallV hF (c_X12_makePage hG hS (SR.s hR_m_9 (Or.inl (by decide))) p (by first | omega | exact hp9 | exact hE.fPG hp)) MW_X12_makePage 13 (by decide) (by exact hS.k35) wd_1992 wd_1994 wd_p82 (by decide +kernel) [] rfl rfl (by decide) (Nat.le_of_ble_eq_true rfl) (by decide) (kMV (fun m_11 h_12 => ?_))
        obtain ⟨hR_m_11, h_12⟩ := h_12
        have hPD := PD.one hp1 FR.rf hcl h_12
        have hF2 : FT mem m_11 := hT.1.tr hPD.1.t
        have hE : EQ69 mem m_11 := hF2.e
        have e47 := congrFun (hE.at 47 (by decide)) p
        have hnum : ∀ i : Int, 0 ≤ i → i < mem 47 p → m_11 61 i = numF (nearP mem p) (oneA (5 * n + slotV c) 1) (mem 49 p) (mem 52 p) i := fun i h1 h2 => by rw [← hE1.fnearP, ← hE1.at 49 (by decide), ← hE1.at 52 (by decide)]; exact hPD.2.1 i h1 (by rw [hE1.at 47 (by decide)]; exact h2)
        have htru : ∀ i : Int, 0 ≤ i → i < mem 47 p → m_11 69 i = numT mem p i := fun i h1 h2 => by rw [hPD.1 69 i (by decide) (by decide) (by decide) (by decide)]; exact hT.2 i h1 h2
        refine jblk hF [(.iconst 0, 1), (.istore 4, 2), (.iconst 0, 1), (.istore 5, 2)] (by decide +kernel) (pc' := 63) (lo' := [(5, (0, 0)), (4, (0, 0)), (0, (2, 35)), (1, (0, p)), (2, (0, n)), (3, (0, c))]) (st' := []) rfl ?_
        have L_14 : ∀ (fu_15 : Nat) (k : Int) (i : Int), (0 ≤ i ∧ i ≤ mem 47 p) → (k = spN mem p (oneA (5 * n + slotV c) 1) i.toNat) →  (mem 47 p - i).toNat < fu_15 → J z g 6 0 0 (QM z g 0 0 (pMR 0 (fun v mem' => SR mem' ∧ (((isLn mem p n ∧ n % mem 52 p > mem 49 p ∧ (c = 9 ∨ (0 ≤ c ∧ c ≤ mem 49 p - 1))) → v = spN mem p (oneA (5 * n + slotV c) 1) (mem 47 p).toNat ∧ FT mem mem') ∧ (¬ (isLn mem p n ∧ n % mem 52 p > mem 49 p ∧ (c = 9 ∨ (0 ≤ c ∧ c ≤ mem 49 p - 1))) → v = -1 ∧ mem' = mem))) kd ln sz)) 63 [(0, (2, 35)), (1, (0, p)), (2, (0, n)), (3, (0, c)), (4, (0, k)), (5, (0, i))] [] kd ln m_11 sz := by
          intro fu_15
          induction fu_15 with
          | zero => intro k i _ _ hm; omega
          | succ fu_15 ih_13 =>
            intro k i hi hk hm
            have hbd := spN_bd mem p (oneA (5 * n + slotV c) 1) i.toNat
            refine jblk hF [(.iload 5, 2), (.aload_n 0, 1)] (by decide +kernel) (pc' := 66) (lo' := [(0, (2, 35)), (1, (0, p)), (2, (0, n)), (3, (0, c)), (4, (0, k)), (5, (0, i))]) (st' := [(2, 35), (0, i)]) rfl ?_
            refine jget hF 13 22 2 22 rfl (by decide) (by decide) rfl wd_1485 (by decide +kernel) (by exact hS.k35) ?_
            rw [SR.r22 hR_m_11]
            refine jblk hF [(.iload_n 1, 1)] (by decide +kernel) (pc' := 70) (lo' := [(0, (2, 35)), (1, (0, p)), (2, (0, n)), (3, (0, c)), (4, (0, k)), (5, (0, i))]) (st' := [(0, p), (2, 47), (0, i)]) rfl ?_
            refine jiald hF (by decide +kernel) (by exact hS.k47) (by omega) (by have := hS.l47; omega) ?_
            refine jicmp_ge hF (off := 37) 108 (by decide +kernel) (by decide) (by omega) (by omega) (fun h_16 => ?_) (fun h_16 => ?_)
            · refine jblk hF [(.iload 4, 2)] (by decide +kernel) (pc' := 110) (lo' := [(0, (2, 35)), (1, (0, p)), (2, (0, n)), (3, (0, c)), (4, (0, k)), (5, (0, i))]) (st' := [(0, k)]) rfl ?_
              refine jiret hF hr (by decide +kernel) ?_
              exact lMR ⟨hR_m_11, by first | exact ⟨fun h => absurd h (by omega), fun _ => ⟨rfl, rfl⟩⟩ | exact ⟨fun _ => ⟨by rw [hk]; congr 1; omega, hF2⟩, fun h => absurd (by omega) h⟩⟩
            · have hn7 := hnum i (by omega) (by omega)
              have hn8 := htru i (by omega) (by omega)
              refine jblk hF [(.iload 4, 2), (.aload_n 0, 1)] (by decide +kernel) (pc' := 77) (lo' := [(0, (2, 35)), (1, (0, p)), (2, (0, n)), (3, (0, c)), (4, (0, k)), (5, (0, i))]) (st' := [(2, 35), (0, k)]) rfl ?_
              refine jget hF 13 37 2 37 rfl (by decide) (by decide) rfl wd_1500 (by decide +kernel) (by exact hS.k35) ?_
              rw [SR.r37 hR_m_11]
              refine jblk hF [(.iload 5, 2)] (by decide +kernel) (pc' := 82) (lo' := [(0, (2, 35)), (1, (0, p)), (2, (0, n)), (3, (0, c)), (4, (0, k)), (5, (0, i))]) (st' := [(0, i), (2, 61), (0, k)]) rfl ?_
              refine jlald hF (by decide +kernel) (by exact hS.k61) (by omega) (by have := hS.l61; omega) ?_
              refine jblk hF [(.aload_n 0, 1)] (by decide +kernel) (pc' := 84) (lo' := [(0, (2, 35)), (1, (0, p)), (2, (0, n)), (3, (0, c)), (4, (0, k)), (5, (0, i))]) (st' := [(2, 35), (1, m_11 61 i), (0, k)]) rfl ?_
              refine jget hF 13 47 2 47 rfl (by decide) (by decide) rfl wd_1510 (by decide +kernel) (by exact hS.k35) ?_
              rw [SR.r47 hR_m_11]
              refine jblk hF [(.iload 5, 2)] (by decide +kernel) (pc' := 89) (lo' := [(0, (2, 35)), (1, (0, p)), (2, (0, n)), (3, (0, c)), (4, (0, k)), (5, (0, i))]) (st' := [(0, i), (2, 69), (1, m_11 61 i), (0, k)]) rfl ?_
              refine jlald hF (by decide +kernel) (by exact hS.k69) (by omega) (by have := hS.l69; omega) ?_
              refine jlcmpW_eq hF (off := 7) 98 (by decide +kernel) (by decide +kernel) (by decide) (fun h_17 => ?_) (fun h_17 => ?_)
              · refine jblk hF [(.iconst 0, 1), (.iadd, 1), (.istore 4, 2), (.iinc 5 1, 3)] (by decide +kernel) (pc' := 105) (lo' := [(5, (0, i + 1)), (4, (0, k + 0)), (0, (2, 35)), (1, (0, p)), (2, (0, n)), (3, (0, c))]) (st' := []) rfl ?_
                refine jgoto hF (off := (-42)) 63 (by decide +kernel) (by decide) ?_
                refine jsub [2, 3, 4, 5, 1, 0] rfl ?_
                refine ih_13 (k + 0) (i + 1) ?_ ?_ ?_
                · omega
                · rw [spN_s (by omega), ← hn7, ← hn8]; first | (rw [if_pos (by assumption)]; omega) | (rw [if_neg (fun h => absurd (by assumption) h)]; omega)
                · omega
              · refine jblk hF [(.iconst 1, 1)] (by decide +kernel) (pc' := 95) (lo' := [(0, (2, 35)), (1, (0, p)), (2, (0, n)), (3, (0, c)), (4, (0, k)), (5, (0, i))]) (st' := [(0, 1), (0, k)]) rfl ?_
                refine jgoto hF (off := 4) 99 (by decide +kernel) (by decide) ?_
                refine jblk hF [(.iadd, 1), (.istore 4, 2), (.iinc 5 1, 3)] (by decide +kernel) (pc' := 105) (lo' := [(5, (0, i + 1)), (4, (0, k + 1)), (0, (2, 35)), (1, (0, p)), (2, (0, n)), (3, (0, c))]) (st' := []) rfl ?_
                refine jgoto hF (off := (-42)) 63 (by decide +kernel) (by decide) ?_
                refine jsub [2, 3, 4, 5, 1, 0] rfl ?_
                refine ih_13 (k + 1) (i + 1) ?_ ?_ ?_
                · omega
                · rw [spN_s (by omega), ← hn7, ← hn8]; first | (rw [if_pos (by assumption)]; omega) | (rw [if_neg (fun h => absurd (by assumption) h)]; omega)
                · omega
        refine jsub [2, 3, 4, 5, 1, 0] rfl ?_
        refine L_14 _ 0 0 ?_ ?_ (Nat.lt_succ_self _)
        · omega
        · rfl
      · refine jif_ne hF (off := 5) 29 (by decide +kernel) (by decide) (by decide) (fun h => absurd h (by decide)) (fun _ => ?_)
        refine jblk hF [(.iconst (-1), 1)] (by decide +kernel) (pc' := 28) (lo' := [(0, (2, 35)), (1, (0, p)), (2, (0, n)), (3, (0, c))]) (st' := [(0, (-1))]) rfl ?_
        refine jiret hF hr (by decide +kernel) ?_
        exact lMR ⟨hR, by first | exact ⟨fun h => absurd h (by omega), fun _ => ⟨rfl, rfl⟩⟩ | exact ⟨fun _ => ⟨by rw [hk]; congr 1; omega, hF2⟩, fun h => absurd (by omega) h⟩⟩
    · refine jif_eq hF (off := 12) 27 (by decide +kernel) (by decide) (by decide) (fun _ => ?_) (fun h => absurd h (by decide))
      refine jblk hF [(.iconst (-1), 1)] (by decide +kernel) (pc' := 28) (lo' := [(0, (2, 35)), (1, (0, p)), (2, (0, n)), (3, (0, c))]) (st' := [(0, (-1))]) rfl ?_
      refine jiret hF hr (by decide +kernel) ?_
      exact lMR ⟨hR, by first | exact ⟨fun h => absurd h (by omega), fun _ => ⟨rfl, rfl⟩⟩ | exact ⟨fun _ => ⟨by rw [hk]; congr 1; omega, hF2⟩, fun h => absurd (by omega) h⟩⟩
  · refine jif_eq hF (off := 21) 27 (by decide +kernel) (by decide) (by decide) (fun _ => ?_) (fun h => absurd h (by decide))
    refine jblk hF [(.iconst (-1), 1)] (by decide +kernel) (pc' := 28) (lo' := [(0, (2, 35)), (1, (0, p)), (2, (0, n)), (3, (0, c))]) (st' := [(0, (-1))]) rfl ?_
    refine jiret hF hr (by decide +kernel) ?_
    exact lMR ⟨hR, by first | exact ⟨fun h => absurd h (by omega), fun _ => ⟨rfl, rfl⟩⟩ | exact ⟨fun _ => ⟨by rw [hk]; congr 1; omega, hF2⟩, fun h => absurd (by omega) h⟩⟩
end
