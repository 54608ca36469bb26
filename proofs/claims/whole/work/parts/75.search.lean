section
theorem PB_of {mem m : Int → Int → Int} {p : Int} (h : ∀ k : Int, m p k = mem p k) (hPB : PB mem p) : PB m p := by
  show 2 ≤ m p 2 ∧ m p 2 ≤ 40 ∧ 1 ≤ m p 1 ∧ m p 1 ≤ 9999 ∧ 1 ≤ m p 3 ∧ m p 3 ≤ 50 ∧ 1 ≤ m p 4 ∧ m p 4 ≤ 4 ∧ 0 ≤ m p 5 ∧ m p 5 ≤ 5 ∧ 0 ≤ m p 6 ∧ m p 5 + m p 6 ≤ 6 ∧ m p 4 + 2 ≤ m p 7 ∧ m p 7 ≤ 40 ∧ 0 ≤ m p 8 ∧ m p 8 ≤ 2
  rw [h 1, h 2, h 3, h 4, h 5, h 6, h 7, h 8]
  exact hPB
theorem mdV_cg {mem m : Int → Int → Int} {p b : Int} (h : ∀ k : Int, m p k = mem p k) : mdV m p b = mdV mem p b := by unfold mdV; rw [h 7, h 4, enV_cg (h 2) (h 7)]
/-- what the search leaves of a block -/
def FXP (mem mm : Int → Int → Int) : Prop := ∀ a j : Int, ¬ (15 ≤ a ∧ a ≤ 21) → ¬ (a = 14 ∧ 7 ≤ j ∧ j ≤ 10) → mm a j = mem a j
def EXR (mem mm : Int → Int → Int) (p b : Int) (S : ST) : Prop := FXP mem mm ∧ SKP mm S ∧ ∃ (rs f1 f2 f3 : Int → Int), (∀ x : Int, mdV mem p b ≤ x → x < enV mem p b → rs x = difF (mem 11) x (mem p 4 + 1) (mem p 4 + 1 + 1).toNat) ∧ S = seekP (enV mem p b) (mem p 4) 4 rs (mdV mem p b) (fun _ => 0) (fun _ => 0) (fun _ => 0) (5, 0, f1, f2, f3)
theorem exr_of {mem m m' : Int → Int → Int} {p b E D : Int} {d : Nat} (hf : FXP mem m) (hE : E = enV mem p b) (hD : D = mdV mem p b) (h7 : m 14 7 = E) (h8 : m 14 8 = mem p 4) (hx : ∀ x : Int, D ≤ x → x < E → m 15 x = difF (mem 11) x (mem p 4 + 1) (mem p 4 + 1 + 1).toNat) (hd : d = 4) (h : SKR m m' 0 d (m 15) D (fun _ => 0) (fun _ => 0) (fun _ => 0) (5, 0, m 19, m 20, m 21)) : EXR mem m' p b (seekP E (mem p 4) 4 (m 15) D (fun _ => 0) (fun _ => 0) (fun _ => 0) (5, 0, m 19, m 20, m 21)) := by
  subst hE
  subst hD
  subst hd
  obtain ⟨h1, h2, h3, h4⟩ := h
  rw [h7, h8] at h4
  exact ⟨fun a j q1 q2 => (h1 a j q1 (by omega)).trans (hf a j q1 q2), h4, m 15, m 19, m 20, m 21, hx, rfl⟩
set_option maxHeartbeats 4000000 in
set_option maxRecDepth 100000 in
theorem c_X6_explains {l : Launch} {g : GP} (hG : GH g) {kd : Int → Nat} {ln : Int → Int} {mem : Int → Int → Int} {sz : Nat} (hK : HK kd ln) (hR : HR mem) (p b : Int) (hkp : kd p = 5) (hp0 : 0 ≤ p) (hPB : PB mem p) (hp35 : 35 ≤ p) (hb : 0 ≤ b ∧ b * mem p 7 < mem p 2) (hbd : ∀ x : Int, mdV mem p b ≤ x → x < enV mem p b → -4000000000 ≤ difF (mem 11) x (mem p 4 + 1) (mem p 4 + 1 + 1).toNat ∧ difF (mem 11) x (mem p 4 + 1) (mem p 4 + 1 + 1).toNat ≤ 4000000000) : MT l g yX6_explains cX6_explains 6 (some .boolean) 10 0 0 [(2, 14), (2, 10), (2, p), (0, b)] kd ln mem sz (pMB (fun c mem' => HR mem' ∧ (∃ S : ST, (c ↔ S.1 ≤ 4) ∧ EXR mem mem' p b S)) kd ln sz) := by
  refine MT_of hG (by decide +kernel) (Nat.le_of_ble_eq_true rfl) (fun z hF hr hn => ?_)
  have ⟨b1, b2, b3, b4, b5, b6, b7, b8, b9, b10, b11, b12, b13, b14, b15, b16⟩ := hPB
  have hb40 : b ≤ 40 := by
    have := Int.mul_le_mul_of_nonneg_left (show (1 : Int) ≤ mem p 7 by omega) hb.1
    omega
  have hen : enV mem p b ≤ 40 ∧ 0 ≤ enV mem p b := by have := enV_bd hPB (b := b) ⟨hb.1, hb40⟩; omega
  have hmd : 0 ≤ mdV mem p b ∧ mdV mem p b ≤ enV mem p b ∧ (mdV mem p b < enV mem p b → mem p 4 + 1 ≤ mdV mem p b) := by
    have h0 : 0 ≤ b * mem p 7 := Int.mul_nonneg hb.1 (by omega)
    unfold mdV
    split <;> omega
  obtain ⟨E, hE⟩ : ∃ x : Int, x = enV mem p b := ⟨_, rfl⟩
  obtain ⟨D, hD⟩ : ∃ x : Int, x = mdV mem p b := ⟨_, rfl⟩
  rw [← hE] at hen hmd
  rw [← hD] at hmd
  rw [← hE, ← hD] at hbd
  refine jblk hF [(.aload_n 0, 1), (.aload_n 2, 1)] (by decide +kernel) (pc' := 2) (lo' := [(0, (2, 14)), (1, (2, 10)), (2, (2, p)), (3, (0, b))]) (st' := [(2, p), (2, 14)]) rfl ?_
  refine jget hF 4 4 0 4 rfl (by decide) (by decide) rfl wd_699 (by decide +kernel) (by first | assumption | omega) ?_
  refine jput hF 7 8 0 8 rfl (by decide) (by decide) rfl wd_228 (by decide +kernel) rfl (Or.inl rfl) (by exact hK.k14) (fun h => by cases h) ?_
  obtain ⟨ma, hma⟩ : ∃ q : Int → Int → Int, q = (set2 mem 14 8 (mem p 4)) := ⟨_, rfl⟩
  rw [← hma]
  have hR_ma : HR ma := by rw [hma]; exact (HR.s hR (by omega))
  have hpma : ∀ k : Int, ma p k = mem p k := fun k => by rw [hma]; exact s2_a (by omega)
  have hPBa := PB_of hpma hPB
  refine jblk hF [(.aload_n 0, 1), (.aload_n 2, 1), (.iload_n 3, 1)] (by decide +kernel) (pc' := 11) (lo' := [(0, (2, 14)), (1, (2, 10)), (2, (2, p)), (3, (0, b))]) (st' := [(0, b), (2, p), (2, 14)]) rfl ?_
  refine jcallV hF (c_X3_endOf hG p b (by first | assumption | omega) (by omega) (by assumption) (by omega)) MW_X3_endOf 4 (by decide) (by first | assumption | omega) wd_1058 wd_827 wd_828 (by decide +kernel) [(2, 14)] rfl rfl (by decide) (Nat.le_of_ble_eq_true rfl) (by decide) (kV ?_)
  rw [enV_cg (hpma 2) (hpma 7), ← hE]
  refine jput hF 7 7 0 7 rfl (by decide) (by decide) rfl wd_227 (by decide +kernel) rfl (Or.inl rfl) (by exact hK.k14) (fun h => by cases h) ?_
  refine jblk hF [(.aload_n 0, 1), (.iconst 5, 1)] (by decide +kernel) (pc' := 19) (lo' := [(0, (2, 14)), (1, (2, 10)), (2, (2, p)), (3, (0, b))]) (st' := [(0, 5), (2, 14)]) rfl ?_
  refine jput hF 7 9 0 9 rfl (by decide) (by decide) rfl wd_229 (by decide +kernel) rfl (Or.inl rfl) (by exact hK.k14) (fun h => by cases h) ?_
  refine jblk hF [(.aload_n 0, 1), (.iconst 0, 1)] (by decide +kernel) (pc' := 24) (lo' := [(0, (2, 14)), (1, (2, 10)), (2, (2, p)), (3, (0, b))]) (st' := [(0, 0), (2, 14)]) rfl ?_
  refine jput hF 7 10 0 10 rfl (by decide) (by decide) rfl wd_231 (by decide +kernel) rfl (Or.inl rfl) (by exact hK.k14) (fun h => by cases h) ?_
  obtain ⟨mb, hmb⟩ : ∃ q : Int → Int → Int, q = (set2 (set2 (set2 ma 14 7 E) 14 9 5) 14 10 0) := ⟨_, rfl⟩
  rw [← hmb]
  have hR_mb : HR mb := by rw [hmb]; exact (HR.s (HR.s (HR.s hR_ma (by omega)) (by omega)) (by omega))
  have hpmb : ∀ k : Int, mb p k = mem p k := fun k => by rw [hmb, s2_a (by omega), s2_a (by omega), s2_a (by omega)]; exact hpma k
  have hPBb := PB_of hpmb hPB
  have hfb : FXP mem mb := fun a j q1 q2 => by rw [hmb, hma]; unfold set2; rw [if_neg (by omega), if_neg (by omega), if_neg (by omega), if_neg (by omega)]
  have g7 : mb 14 7 = E := by rw [hmb, s2_k (by decide), s2_k (by decide), s2_s]
  have g8 : mb 14 8 = mem p 4 := by rw [hmb, s2_k (by decide), s2_k (by decide), s2_k (by decide), hma, s2_s]
  have g9 : mb 14 9 = 5 := by rw [hmb, s2_k (by decide), s2_s]
  have g10 : mb 14 10 = 0 := by rw [hmb, s2_s]
  refine jblk hF [(.aload_n 2, 1), (.iload_n 3, 1)] (by decide +kernel) (pc' := 29) (lo' := [(0, (2, 14)), (1, (2, 10)), (2, (2, p)), (3, (0, b))]) (st' := [(0, b), (2, p)]) rfl ?_
  refine jcallV hF (c_X3_madeFrom hG p b (by first | assumption | omega) (by omega) (by assumption) (by omega)) MW_X3_madeFrom 4 (by decide) (by first | assumption | omega) wd_1059 wd_823 wd_824 (by decide +kernel) [] rfl rfl (by decide) (Nat.le_of_ble_eq_true rfl) (by decide) (kV ?_)
  rw [mdV_cg hpmb, ← hD]
  refine jblk hF [(.istore 4, 2), (.iload 4, 2), (.istore 5, 2)] (by decide +kernel) (pc' := 38) (lo' := [(5, (0, D)), (4, (0, D)), (0, (2, 14)), (1, (2, 10)), (2, (2, p)), (3, (0, b))]) (st' := []) rfl ?_
  have L_2 : ∀ (fu_3 : Nat) (i : Int) (m : Int → Int → Int), (HR m) → (D ≤ i ∧ i ≤ E) → (FXP mem m) → (m 14 7 = E ∧ m 14 8 = mem p 4 ∧ m 14 9 = 5 ∧ m 14 10 = 0) → (∀ x : Int, D ≤ x → x < i → m 15 x = difF (mem 11) x (mem p 4 + 1) (mem p 4 + 1 + 1).toNat) →  (E - i).toNat < fu_3 → J z g 6 0 0 (QM z g 0 0 (pMB (fun c mem' => HR mem' ∧ (∃ S : ST, (c ↔ S.1 ≤ 4) ∧ EXR mem mem' p b S)) kd ln sz)) 38 [(0, (2, 14)), (1, (2, 10)), (2, (2, p)), (3, (0, b)), (4, (0, D)), (5, (0, i))] [] kd ln m sz := by
    intro fu_3
    induction fu_3 with
    | zero => intro i m _ _ _ _ _ hm; omega
    | succ fu_3 ih_1 =>
      intro i m hR_m hi hfm he hx hm
      have e7 := he.1
      have e8 := he.2.1
      have e11 : m 11 = mem 11 := funext fun j => hfm 11 j (by omega) (by omega)
      refine jblk hF [(.iload 5, 2), (.aload_n 0, 1)] (by decide +kernel) (pc' := 41) (lo' := [(0, (2, 14)), (1, (2, 10)), (2, (2, p)), (3, (0, b)), (4, (0, D)), (5, (0, i))]) (st' := [(2, 14), (0, i)]) rfl ?_
      refine jget hF 7 7 0 7 rfl (by decide) (by decide) rfl wd_227 (by decide +kernel) (by exact hK.k14) ?_
      refine jicmp_ge hF (off := 28) 72 (by decide +kernel) (by decide) (by omega) (by omega) (fun h_4 => ?_) (fun h_4 => ?_)
      · refine jblk hF [(.aload_n 0, 1), (.iconst 0, 1), (.iload 4, 2)] (by decide +kernel) (pc' := 76) (lo' := [(0, (2, 14)), (1, (2, 10)), (2, (2, p)), (3, (0, b)), (4, (0, D)), (5, (0, i))]) (st' := [(0, D), (0, 0), (2, 14)]) rfl ?_
        have hSB0 : SBP (5, 0, m 19, m 20, m 21) := ⟨(by decide : (0 : Int) ≤ 5), (by decide : (5 : Int) ≤ 5)⟩
        have hBR : BRS (m 14 7) D 4000000000 (m 15) := fun x h1 h2 => by rw [hx x h1 (by omega)]; exact hbd x h1 (by omega)
        refine jcallV hF (c_sk0 hG hK hR_m 0 D (by exact m 15) (by exact fun _ => 0) (by exact fun _ => 0) (by exact fun _ => 0) (by exact (5, 0, m 19, m 20, m 21)) (by rfl) (by omega) (by omega) (by omega) (by rfl) (by exact fun j h1 h2 => by omega) (by exact ⟨he.2.2.1, he.2.2.2, rfl, rfl, rfl⟩) (by exact hSB0) (by exact hBR)) MW_X6_seek 7 (by decide) (by exact hK.k14) wd_1061 wd_1063 wd_p32 (by decide +kernel) [] rfl rfl (by decide) (Nat.le_of_ble_eq_true rfl) (by decide) (kMV (fun m_5 h_6 => ?_))
        obtain ⟨hR_m_5, h_6⟩ := h_6
        have hex := exr_of hfm hE hD e7 e8 (fun x h1 h2 => hx x h1 (by omega)) rfl h_6
        have hS9 := hex.2.1.1
        have hSb := seekP_bd (N := E) (o := mem p 4) 4 (by decide) (m 15) D (fun _ => 0) (fun _ => 0) (fun _ => 0) (5, 0, m 19, m 20, m 21) hSB0
        have hSb1 := hSb.1
        have hSb2 := hSb.2
        refine jblk hF [(.aload_n 0, 1)] (by decide +kernel) (pc' := 80) (lo' := [(0, (2, 14)), (1, (2, 10)), (2, (2, p)), (3, (0, b)), (4, (0, D)), (5, (0, i))]) (st' := [(2, 14)]) rfl ?_
        refine jget hF 7 9 0 9 rfl (by decide) (by decide) rfl wd_229 (by decide +kernel) (by exact hK.k14) ?_
        refine jblk hF [(.iconst 4, 1)] (by decide +kernel) (pc' := 84) (lo' := [(0, (2, 14)), (1, (2, 10)), (2, (2, p)), (3, (0, b)), (4, (0, D)), (5, (0, i))]) (st' := [(0, 4), (0, m_5 14 9)]) rfl ?_
        refine jicmp_gt hF (off := 7) 91 (by decide +kernel) (by decide) (by omega) (by decide) (fun h_7 => ?_) (fun h_7 => ?_)
        · refine jblk hF [(.iconst 0, 1)] (by decide +kernel) (pc' := 92) (lo' := [(0, (2, 14)), (1, (2, 10)), (2, (2, p)), (3, (0, b)), (4, (0, D)), (5, (0, i))]) (st' := [(0, 0)]) rfl ?_
          refine jzret hF hr (by omega) (by decide +kernel) ?_
          exact lMB0 ⟨hR_m_5, by first | exact ⟨_, ⟨fun _ => by omega, fun _ => trivial⟩, hex⟩ | exact ⟨_, ⟨fun h => h.elim, fun h => absurd h (by omega)⟩, hex⟩⟩
        · refine jblk hF [(.iconst 1, 1)] (by decide +kernel) (pc' := 88) (lo' := [(0, (2, 14)), (1, (2, 10)), (2, (2, p)), (3, (0, b)), (4, (0, D)), (5, (0, i))]) (st' := [(0, 1)]) rfl ?_
          refine jgoto hF (off := 4) 92 (by decide +kernel) (by decide) ?_
          refine jzret hF hr (by omega) (by decide +kernel) ?_
          exact lMB1 ⟨hR_m_5, by first | exact ⟨_, ⟨fun _ => by omega, fun _ => trivial⟩, hex⟩ | exact ⟨_, ⟨fun h => h.elim, fun h => absurd h (by omega)⟩, hex⟩⟩
      · refine jblk hF [(.aload_n 0, 1)] (by decide +kernel) (pc' := 48) (lo' := [(0, (2, 14)), (1, (2, 10)), (2, (2, p)), (3, (0, b)), (4, (0, D)), (5, (0, i))]) (st' := [(2, 14)]) rfl ?_
        refine jget hF 7 0 2 0 rfl (by decide) (by decide) rfl wd_217 (by decide +kernel) (by exact hK.k14) ?_
        rw [HR.r14_0 hR_m]
        refine jblk hF [(.iload 5, 2), (.aload_n 1, 1), (.iload 5, 2), (.aload_n 0, 1)] (by decide +kernel) (pc' := 57) (lo' := [(0, (2, 14)), (1, (2, 10)), (2, (2, p)), (3, (0, b)), (4, (0, D)), (5, (0, i))]) (st' := [(2, 14), (0, i), (2, 10), (0, i), (2, 15)]) rfl ?_
        refine jget hF 7 8 0 8 rfl (by decide) (by decide) rfl wd_228 (by decide +kernel) (by exact hK.k14) ?_
        refine jblk hF [(.iconst 1, 1), (.iadd, 1)] (by decide +kernel) (pc' := 62) (lo' := [(0, (2, 14)), (1, (2, 10)), (2, (2, p)), (3, (0, b)), (4, (0, D)), (5, (0, i))]) (st' := [(0, (m 14 8) + 1), (0, i), (2, 10), (0, i), (2, 15)]) rfl ?_
        refine jcallV hF (c_X2_difference hG hK hR_m i ((m 14 8) + 1) (by omega)) MW_X2_difference 3 (by decide) (by exact hK.k10) wd_1060 wd_838 wd_839 (by decide +kernel) [(0, i), (2, 15)] rfl rfl (by decide) (Nat.le_of_ble_eq_true rfl) (by decide) (kV ?_)
        refine jlast hF (by decide +kernel) (by decide) (by exact hK.k15) (by omega) (by have := hK.l15; omega) ?_
        refine jblk hF [(.iinc 5 1, 3)] (by decide +kernel) (pc' := 69) (lo' := [(5, (0, i + 1)), (0, (2, 14)), (1, (2, 10)), (2, (2, p)), (3, (0, b)), (4, (0, D))]) (st' := []) rfl ?_
        refine jgoto hF (off := (-31)) 38 (by decide +kernel) (by decide) ?_
        refine jsub [1, 2, 3, 4, 5, 0] rfl ?_
        refine ih_1 (i + 1) (set2 m 15 i (difF (m 11) i ((m 14 8) + 1) (((m 14 8) + 1) + 1).toNat)) ?_ ?_ ?_ ?_ ?_ ?_
        · exact (HR.s hR_m (by omega))
        · omega
        · exact fun a j q1 q2 => (s2_a (by omega)).trans (hfm a j q1 q2)
        · exact he
        · (intro x h1 h2; by_cases q1 : x = i; (rw [q1, s2_s, e11, e8]); (rw [s2_k q1]; exact hx x h1 (by omega)))
        · omega
  refine jsub [2, 3, 4, 5, 1, 0] rfl ?_
  refine L_2 _ D mb ?_ ?_ ?_ ?_ ?_ (Nat.lt_succ_self _)
  · exact hR_mb
  · omega
  · exact hfb
  · exact ⟨g7, g8, g9, g10⟩
  · (intro x h1 h2; omega)
end
