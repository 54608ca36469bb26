section COPYOF
def cpX (kd : Int → Nat) (ln : Int → Int) (mem : Int → Int → Int) (sz : Nat) (a n : Int) : PT := pXR 2 (fun v kd' ln' mem' sz' => v = sz ∧ sz' = sz + 1 ∧ kd' v = 23 ∧ ln' v = n ∧ (∀ b j : Int, b ≠ v → mem' b j = mem b j) ∧ ∀ j : Int, 0 ≤ j → j < ln a → mem' v j = mem a j) kd ln sz
abbrev ELS (kd : Int → Nat) (f : Int → Int) (n : Int) : Prop := ∀ j : Int, 0 ≤ j → j < n → ∃ c : Nat, c < 14 ∧ kd (f j) = c + 1 ∧ Cond.castable (cRec c).1 "java/lang/Object" ∈ lw_tbl
theorem c_copyOf3 {l : Launch} {g : GP} (hG : GH g) {kd : Int → Nat} {ln : Int → Int} {mem : Int → Int → Int} {sz : Nat} {mi : Nat} (hMI : va_Mi "[Ljava/lang/Object;" mi (gs g)) (a n : Int) (hka : kd a = 23) (ha : a < sz) (hz : 3 ≤ sz) (hn : 0 ≤ ln a ∧ ln a ≤ n ∧ n ≤ 100) (hel : ELS kd (mem a) (ln a)) :
    Met l yJ7_copyOf_6403c [.code yJ7_copyOf_6403c cJ7_copyOf_6403c 4 (some (.array (.object "java/lang/Object")))] (mkR 1 1 100) (va_Pc [cv g (2, a), cv g (0, n), .ref mi] (fun U => (gs g).WarmedH U.vm ∧ Rep g kd ln mem sz U.heap)) (QC g (cpX kd ln mem sz a n)) 1 100 (fun q => gb g ≤ q) := by
  refine Met.ofW (cc := cJ7_copyOf_6403c) (maxL := 4) (ret := some (.array (.object "java/lang/Object"))) (by decide +kernel) rfl ?_
  intro p e s m args below meth c s₁ B hml hv
  obtain ⟨rfl, hW, hR⟩ := hv
  have hKs : ∀ x : Int, kd x ≠ 0 → 0 ≤ x ∧ x < sz := hR.2.2.2.2.1
  have hF : FX (p, l, e, mkR 1 1 100, s, m, [cv g (2, a), cv g (0, n), .ref mi].toArray, below, meth, c) l g 4 cJ7_copyOf_6403c "java/util/Arrays" (mkR 1 1 100) := ⟨B.exec, B.bytes, hml, findClass_of_methodNamed B.named, hW, hG, B.notSynchronized, rfl, rfl⟩
  have hr : RT (p, l, e, mkR 1 1 100, s, m, [cv g (2, a), cv g (0, n), .ref mi].toArray, below, meth, c) (some (.array (.object "java/lang/Object"))) := B.returns
  have hl := lv_entry [cv g (2, a), cv g (0, n), .ref mi] (n := 4) (by
    have h1 : (cv g (2, a)).category = 1 := av_c1 (v := (2, a)) (show ¬ (2 : Nat) = 1 by decide)
    have h2 : (cv g (0, n)).category = 1 := av_c1 (v := (0, n)) (show ¬ (0 : Nat) = 1 by decide)
    have h3 : (Value.ref mi).category = 1 := rfl
    unfold lg_sl
    simp [h1, h2, h3])
  rw [lg_entry_eq]
  have hl2 : lv_args 0 [cv g (2, a), cv g (0, n), Value.ref mi] = [(0, cv g (2, a)), (1, cv g (0, n)), (2, Value.ref mi)] := by
    have h1 : (cv g (2, a)).category = 1 := av_c1 (v := (2, a)) (show ¬ (2 : Nat) = 1 by decide)
    have h2 : (cv g (0, n)).category = 1 := av_c1 (v := (0, n)) (show ¬ (0 : Nat) = 1 by decide)
    simp [lv_args, h1, h2]
  rw [hl2] at hl
  obtain ⟨hx, hb, hml', hown, hW', hG', hlk, -, -⟩ := id hF
  refine lv_aload_n hx hb (show decode cJ7_copyOf_6403c 0 = .ok (.aload_n 2, 1) by decide +kernel) rfl (hl.2.2 (2, Value.ref mi) (by simp)) ?_
  refine va_ldcM hx hb hown (hts_at hG hW wd_479 rfl) (hMI.moved hW.alike) (show decode cJ7_copyOf_6403c 1 = .ok (.ldc 110, 2) by decide +kernel) ?_
  refine lv_acmp_ne (rx := some mi) (ry := some mi) hx hb (show decode cJ7_copyOf_6403c 3 = .ok (.if_acmp .ne 10, 3) by decide +kernel) (tgt := 13) (by decide) (fun h => absurd rfl h) (fun _ => ?_)
  have hl3 : lv_has _ 4 (cl g [(0, (2, a)), (1, (0, n))]) := lv_sub hl [0, 1] rfl
  revert hl3
  generalize hls : ((lg_sl [cv g (2, a), cv g (0, n), Value.ref mi]).toArray ++ Array.replicate (4 - (lg_sl [cv g (2, a), cv g (0, n), Value.ref mi]).length) Slot.unset : Array Slot) = ls0
  intro hl3
  suffices hJ : J (p, l, e, mkR 1 1 100, s, m, [cv g (2, a), cv g (0, n), .ref mi].toArray, below, meth, c) g 4 0 0 (QM (p, l, e, mkR 1 1 100, s, m, [cv g (2, a), cv g (0, n), .ref mi].toArray, below, meth, c) g 1 100 (cpX kd ln mem sz a n)) 6 [(0, (2, a)), (1, (0, n))] [] kd ln mem sz from hJ _ _ [] hl3 hR (fun q hq => by simp at hq)
  generalize (p, l, e, mkR 1 1 100, s, m, [cv g (2, a), cv g (0, n), .ref mi].toArray, below, meth, c) = z at hF hr ⊢
  have hnt : n.toNat ≤ 100 := by omega
  refine jblk hF [(.iload_n 1, 1)] (by decide +kernel) (pc' := 7) (lo' := [(0, (2, a)), (1, (0, n))]) (st' := [(0, n)]) rfl ?_
  refine janew hF wd_481 wx_480 (by decide +kernel) (by omega) (by omega) ⟨Nat.le_refl _, by show 0 + n.toNat ≤ 100; omega⟩ ?_
  refine jgoto hF (off := 14) 24 (by decide +kernel) (by decide) ?_
  obtain ⟨b, hb1⟩ : ∃ q : Int, q = ((sz : Nat) : Int) := ⟨_, rfl⟩
  rw [← hb1]
  refine jblk hF [(.astore_n 3, 1), (.aload_n 0, 1), (.iconst 0, 1), (.aload_n 3, 1), (.iconst 0, 1), (.aload_n 0, 1)] (by decide +kernel) (pc' := 30) (lo' := [(3, (2, b)), (0, (2, a)), (1, (0, n))]) (st' := [(2, a), (0, 0), (2, b), (0, 0), (2, a)]) rfl ?_
  have hka2 : upK kd b 23 a = 23 := (if_neg (by omega)).trans hka
  have hkb2 : upK kd b 23 b = 23 := if_pos rfl
  have hla2 : upL ln b n a = ln a := if_neg (by omega)
  have hlb2 : upL ln b n b = n := if_pos rfl
  have hma2 : ∀ j : Int, newA (-1) mem b a j = mem a j := fun j => newA_o j (by omega)
  refine jalen hF 3 (by decide) (by decide +kernel) hka2 ?_
  rw [hla2]
  refine jblk hF [(.iload_n 1, 1)] (by decide +kernel) (pc' := 32) (lo' := [(3, (2, b)), (0, (2, a)), (1, (0, n))]) (st' := [(0, n), (0, ln a), (2, a), (0, 0), (2, b), (0, 0), (2, a)].drop 0 |>.eraseIdx 2) rfl ?_
  refine jcallS hF (c_J9_min_7cf53 hG (ln a) n ⟨by omega, by omega⟩ ⟨by omega, by omega⟩) MW_J9_min_7cf53 wd_482 wd_483 (by decide +kernel) [(0, 0), (2, b), (0, 0), (2, a)] rfl rfl ⟨Nat.le_of_ble_eq_true rfl, Nat.le_of_ble_eq_true rfl⟩ (Nat.le_of_ble_eq_true rfl) ⟨Nat.le_refl _, by show 0 + n.toNat + 0 ≤ 100; omega⟩ (kV ?_)
  rw [show (if n < ln a then n else ln a) = ln a from if_neg (by omega)]
  refine jcopy hF 3 (Or.inr (Or.inr rfl)) wd_485 wx_487 wd_486 wd_115 (fun _ => wx_480) hka2 hkb2 (by omega) (Int.le_refl 0) (Int.le_refl 0) (by omega) (by rw [hla2]; omega) (by rw [hlb2]; omega) (fun _ j h1 h2 => ?_) (by decide +kernel) ⟨Nat.le_refl _, Nat.le_of_ble_eq_true rfl⟩ ?_
  · obtain ⟨c, c1, c2, c3⟩ := hel j h1 h2
    refine ⟨c, c1, ?_, c3⟩
    rw [hma2, Int.zero_add]
    have hne : mem a j ≠ b := fun q => by have := hKs (mem a j) (by omega); omega
    exact (if_neg hne).trans c2
  refine jblk hF [(.aload_n 3, 1)] (by decide +kernel) (pc' := 39) (lo' := [(3, (2, b)), (0, (2, a)), (1, (0, n))]) (st' := [(2, b)]) rfl ?_
  refine jwiden (k := 1) (n := 100) (by show 0 + 1 + 0 ≤ 1; omega) (by show 0 + n.toNat + 0 ≤ 100; omega) ?_
  refine jaret hF hr (Or.inr ⟨_, rfl⟩) (by decide +kernel) ?_
  refine ⟨b, rfl, ?_, hb1, rfl, hkb2, hlb2, fun b' j hbj => ?_, fun j h1 h2 => ?_⟩
  · rw [hb1]; exact EXT.a _ _
  · unfold cpyM
    rw [if_neg (fun q => hbj q.1)]
    exact newA_o j hbj
  · unfold cpyM
    rw [if_pos ⟨rfl, by omega, by omega⟩, show (0 : Int) + (j - 0) = j by omega]
    exact hma2 j
theorem arr_face {g : GP} {s : State} (hW : (gs g).WarmedH s.vm) {kd : Int → Nat} {ln : Int → Int} {mem : Int → Int → Int} {sz : Nat} {H : Heap} (hR : Rep g kd ln mem sz H) {a : Int} (ha : kd a = 23) : ∃ k : Nat, a = k ∧ ∃ cell : Cell, H[adr g k]? = some cell ∧ cell.vm.isStatics = false ∧ s.vm.findClass "[Ljava/lang/Object;" = some cell.cls := by
  obtain ⟨a0, a1⟩ := hR.2.2.2.2.1 a (by rw [ha]; omega)
  obtain ⟨n, rfl⟩ := Int.eq_ofNat_of_zero_le a0
  obtain ⟨cell, q1, q2, q3, q4, q5, q6⟩ := (hR.2.2.2.1 n (by omega)).2 3 ha (by omega)
  refine ⟨n, rfl, cell, q1, ?_, ?_⟩
  · have h := q2.1.1
    cases hv : cell.vm <;> first | rfl | exact absurd hv (h _)
  · rw [hW.alike.findClass]
    exact q2.2 rfl
theorem c_copyOf2 {l : Launch} {g : GP} (hG : GH g) {kd : Int → Nat} {ln : Int → Int} {mem : Int → Int → Int} {sz : Nat} {mi : Nat} (hMI : va_Mi "[Ljava/lang/Object;" mi (gs g)) (a n : Int) (hka : kd a = 23) (ha : a < sz) (hz : 3 ≤ sz) (hn : 0 ≤ ln a ∧ ln a ≤ n ∧ n ≤ 100) (hel : ELS kd (mem a) (ln a)) :
    MT l g yJ7_copyOf_1904c cJ7_copyOf_1904c 2 (some (.array (.object "java/lang/Object"))) 2 1 100 [(2, a), (0, n)] kd ln mem sz (cpX kd ln mem sz a n) := by
  refine MT_of hG (by decide +kernel) (Nat.le_of_ble_eq_true rfl) (fun z hF hr hnn => ?_)
  refine jblk hF [(.aload_n 0, 1), (.iload_n 1, 1), (.aload_n 0, 1)] (by decide +kernel) (pc' := 3) (lo' := [(0, (2, a)), (1, (0, n))]) (st' := [(2, a), (0, n), (2, a)]) rfl ?_
  obtain ⟨p, l', e, R', s, m, args, below, meth, c⟩ := z
  obtain ⟨hx, hb, hml, hown, hW, hG', hlk, rfl, rfl⟩ := id hF
  intro ls H locs hls hR hq
  obtain ⟨k, rfl, hcell⟩ := arr_face (s := s) hW hR hka
  refine va_getC (mi := mi) (C := "[Ljava/lang/Object;") hx hb (by rw [hml]; exact hls.1.symm) hown (hts_at hG hW wd_457 rfl) (va_Dc.use (va_Dc.moved hW.alike (va_Dc.of (hG.1 _ wx_2273)))) (hts_at hG hW wx_2272 rfl) (hts_at hG hW wd_458 rfl) (hts_at hG hW wx_475 rfl) (hMI.moved hW.alike) hcell (by show 1 ≤ 2; decide) (by rw [show (([(0, n), (2, ((k : Nat) : Int))] : List AV).map (cv g)).map (fun v => v.category) = _ from rfl, asz_w]; show asz _ + 14 ≤ 80; exact Nat.le_of_ble_eq_true rfl) (by decide +kernel) ?_
  have hrun : va_Run p l' e (mkR 2 1 100) s m args below meth c H locs 0 0 1 100 (F0 m 6 ls (.ref mi :: cv g (0, n) :: cv g (2, ((k : Nat) : Int)) :: [])) [] (QC g (cpX kd ln mem sz (k : Int) n) [cv g (2, ((k : Nat) : Int)), cv g (0, n), .ref mi].toArray) (fun q => gb g ≤ q) := va_runS (R := mkR 2 1 100) (Ts := []) (n := 3) (cells := 0) (slots := 0) (locs := locs) (H := H) (g := F0 m 6 ls (.ref mi :: cv g (0, n) :: cv g (2, ((k : Nat) : Int)) :: [])) (rest := []) (As := [cv g (2, ((k : Nat) : Int)), cv g (0, n), .ref mi]) ⟨hx, hb, hml, hown, fun w h => by simp at h⟩ (c_copyOf3 hG hMI (k : Int) n hka ha hz hn hel) ⟨⟨rfl, rfl, (by show 1 + 1 ≤ 2; decide), (by show 8 + (4 + 11) + 40 * 1 ≤ 40 * 2; decide), fun w h a' U hWU => by
      rw [List.mem_singleton.mp h]
      exact hts_at hG (State.WarmedH.trans hW hWU) MW_J7_copyOf_6403c.2.2.1 rfl, List.mem_cons_self, hts_at hG hW MW_J7_copyOf_6403c.2.2.1 rfl, hts_at hG hW MW_J7_copyOf_6403c.2.2.2 rfl, MW_J7_copyOf_6403c.1, MW_J7_copyOf_6403c.len, hts_at hG hW wd_476 rfl⟩, hts_at hG hW wd_477 rfl⟩ ⟨fun _ _ _ _ q => q, fun U hU hWU => ⟨rfl, State.WarmedH.trans hW hWU, by rw [hU]; exact hR⟩⟩ rfl rfl hls.1 rfl (by show 2 * 0 + 0 ≤ 8; decide) (show decode cJ7_copyOf_1904c 6 = .ok (.invokestatic 300, 3) by decide +kernel) ⟨Nat.le_of_ble_eq_true rfl, Nat.le_of_ble_eq_true rfl⟩
  intro T hT X
  obtain ⟨v, st₀, t, T', L, h0, X', hL, e1, e2, ⟨r, kd', ln', mem', sz', h1, h2, h3⟩, hst⟩ := hrun T hT X
  cases h1
  have hJ : J (p, l', e, mkR 2 1 100, s, m, args, below, meth, c) g 2 (0 + 1) (0 + 100) (QM (p, l', e, mkR 2 1 100, s, m, args, below, meth, c) g 1 100 (cpX kd ln mem sz (k : Int) n)) 9 [(0, (2, ((k : Nat) : Int))), (1, (0, n))] (r.toList ++ []) kd' ln' mem' sz' := by
    obtain ⟨b, rfl, hq2⟩ := id h2
    exact jaret hF hr (Or.inr ⟨_, rfl⟩) (by decide +kernel) h2
  obtain ⟨t2, a1, b1⟩ := hJ ls T'.heap (locs ++ L) hls (by rw [e1]; exact h3) (fun q hq' => (List.mem_append.mp hq').elim (hq q) (hL q)) T' rfl X'
  refine ⟨t2, hst t2 ?_, b1⟩
  have e : (r.map (cv g)).toList ++ ([] : List Value) = (r.toList ++ []).map (cv g) := by cases r <;> rfl
  show Steps p.tables _ below (T'.setTop { (F0 m 6 ls (.ref mi :: cv g (0, n) :: cv g (2, ((k : Nat) : Int)) :: [])) with pc := 9, stack := (r.map (cv g)).toList ++ [] }) t2
  rw [e]
  exact a1
end COPYOF
