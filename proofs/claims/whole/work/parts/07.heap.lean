section HEAP
def set2 (mem : Int → Int → Int) (a k v : Int) : Int → Int → Int := fun b j => if b = a ∧ j = k then v else mem b j
/-- what the tables say of class c -/
def CK (c : Nat) : Prop := vwCl[c]? = some (cRec c) ∧ (∀ w ∈ u_ws (cRec c).1 (cRec c).2.1 (cRec c).2.2, w ∈ lw_tbl) ∧ (∀ k, k < (cRec c).2.2 → parseFieldDescriptor ((cRec c).2.1 k).2.2.1 = some (cty c k)) ∧ (∀ a, a < (cRec c).2.2 → ∀ b, b < (cRec c).2.2 → a ≠ b → ((cRec c).2.1 a).2.1 ≠ ((cRec c).2.1 b).2.1)
theorem CK_of {c : Nat} (q : vw_C) (h : vwCl[c]? = some q) (h1 : ∀ w ∈ u_ws q.1 q.2.1 q.2.2, w ∈ lw_tbl) (h2 : ∀ k, k < q.2.2 → parseFieldDescriptor (q.2.1 k).2.2.1 = some (cty c k)) (h3 : ∀ a, a < q.2.2 → ∀ b, b < q.2.2 → a ≠ b → (q.2.1 a).2.1 ≠ (q.2.1 b).2.1) : CK c := by
  have e : cRec c = q := by unfold cRec; rw [h]
  unfold CK
  rw [e]
  exact ⟨h, h1, h2, h3⟩
theorem in_ps {big ws : List Cond} (ps : List Nat) (h : ws = ps.filterMap (fun i => big[i]?)) : ∀ w ∈ ws, w ∈ big := by
  intro w hw
  rw [h] at hw
  obtain ⟨i, -, hi⟩ := List.mem_filterMap.mp hw
  exact List.mem_of_getElem? hi
set_option maxRecDepth 100000 in
theorem inC_0 : ∀ w ∈ u_ws RJx4a65c TJx4a65c 3, w ∈ lw_tbl := in_ps [326, 322, 324] (by decide +kernel)
set_option maxRecDepth 100000 in
theorem inC_1 : ∀ w ∈ u_ws RX0 TX0 3, w ∈ lw_tbl := in_ps [426, 428, 430] (by decide +kernel)
set_option maxRecDepth 100000 in
theorem inC_2 : ∀ w ∈ u_ws RX1 TX1 4, w ∈ lw_tbl := in_ps [1200, 1202, 1204, 1206] (by decide +kernel)
set_option maxRecDepth 100000 in
theorem inC_3 : ∀ w ∈ u_ws RX2 TX2 3, w ∈ lw_tbl := in_ps [206, 208, 210] (by decide +kernel)
set_option maxRecDepth 100000 in
theorem inC_4 : ∀ w ∈ u_ws RX3 TX3 19, w ∈ lw_tbl := in_ps [732, 734, 736, 738, 740, 742, 744, 746, 748, 750, 752, 754, 756, 758, 760, 762, 764, 766, 768] (by decide +kernel)
set_option maxRecDepth 100000 in
theorem inC_5 : ∀ w ∈ u_ws RX4 TX4 11, w ∈ lw_tbl := in_ps [280, 282, 284, 286, 288, 290, 292, 294, 296, 298, 300] (by decide +kernel)
set_option maxRecDepth 100000 in
theorem inC_6 : ∀ w ∈ u_ws RX5 TX5 7, w ∈ lw_tbl := in_ps [180, 182, 184, 186, 188, 190, 192] (by decide +kernel)
set_option maxRecDepth 100000 in
theorem inC_7 : ∀ w ∈ u_ws RX6 TX6 11, w ∈ lw_tbl := in_ps [236, 238, 240, 242, 244, 246, 248, 250, 252, 254, 256] (by decide +kernel)
set_option maxRecDepth 100000 in
theorem inC_8 : ∀ w ∈ u_ws RX7 TX7 3, w ∈ lw_tbl := in_ps [1249, 1251, 1253] (by decide +kernel)
set_option maxRecDepth 100000 in
theorem inC_9 : ∀ w ∈ u_ws RX8 TX8 6, w ∈ lw_tbl := in_ps [918, 920, 922, 924, 926, 928] (by decide +kernel)
set_option maxRecDepth 100000 in
theorem inC_10 : ∀ w ∈ u_ws RX9 TX9 2, w ∈ lw_tbl := in_ps [1177, 1179] (by decide +kernel)
set_option maxRecDepth 100000 in
theorem inC_11 : ∀ w ∈ u_ws RX10 TX10 2, w ∈ lw_tbl := in_ps [155, 157] (by decide +kernel)
set_option maxRecDepth 100000 in
theorem inC_12 : ∀ w ∈ u_ws RX11 TX11 20, w ∈ lw_tbl := in_ps [349, 351, 353, 355, 357, 359, 361, 363, 365, 367, 369, 371, 373, 375, 377, 379, 381, 383, 385, 387] (by decide +kernel)
set_option maxRecDepth 100000 in
theorem inC_13 : ∀ w ∈ u_ws RX12 TX12 90, w ∈ lw_tbl := in_ps [1556, 1558, 1560, 1562, 1564, 1566, 1568, 1570, 1572, 1574, 1576, 1578, 1580, 1582, 1584, 1586, 1588, 1590, 1592, 1594, 1596, 1598, 1600, 1602, 1604, 1606, 1608, 1610, 1612, 1614, 1616, 1618, 1620, 1622, 1624, 1626, 1628, 1630, 1632, 1634, 1636, 1638, 1640, 1642, 1644, 1646, 1648, 1650, 1652, 1654, 1656, 1658, 1660, 1662, 1664, 1666, 1668, 1670, 1672, 1674, 1676, 1678, 1680, 1682, 1684, 1686, 1688, 1690, 1692, 1694, 1696, 1698, 1700, 1702, 1704, 1706, 1708, 1710, 1712, 1714, 1716, 1718, 1720, 1722, 1724, 1726, 1728, 1730, 1732, 1734] (by decide +kernel)
theorem CK_all : ∀ c, c < 14 → CK c := by
  intro c hc
  match c, hc with
  | 0, _ => exact CK_of (RJx4a65c, TJx4a65c, 3) rfl inC_0 tyJx4a65c_ok nmJx4a65c
  | 1, _ => exact CK_of (RX0, TX0, 3) rfl inC_1 tyX0_ok nmX0
  | 2, _ => exact CK_of (RX1, TX1, 4) rfl inC_2 tyX1_ok nmX1
  | 3, _ => exact CK_of (RX2, TX2, 3) rfl inC_3 tyX2_ok nmX2
  | 4, _ => exact CK_of (RX3, TX3, 19) rfl inC_4 tyX3_ok nmX3
  | 5, _ => exact CK_of (RX4, TX4, 11) rfl inC_5 tyX4_ok nmX4
  | 6, _ => exact CK_of (RX5, TX5, 7) rfl inC_6 tyX5_ok nmX5
  | 7, _ => exact CK_of (RX6, TX6, 11) rfl inC_7 tyX6_ok nmX6
  | 8, _ => exact CK_of (RX7, TX7, 3) rfl inC_8 tyX7_ok nmX7
  | 9, _ => exact CK_of (RX8, TX8, 6) rfl inC_9 tyX8_ok nmX8
  | 10, _ => exact CK_of (RX9, TX9, 2) rfl inC_10 tyX9_ok nmX9
  | 11, _ => exact CK_of (RX10, TX10, 2) rfl inC_11 tyX10_ok nmX10
  | 12, _ => exact CK_of (RX11, TX11, 20) rfl inC_12 tyX11_ok nmX11
  | 13, _ => exact CK_of (RX12, TX12, 90) rfl inC_13 tyX12_ok nmX12
theorem adr_hi {g : GP} {a : Nat} (h : 3 ≤ a) : adr g a = gb g + (a - 3) := by
  match a, h with
  | a + 3, _ => rfl
theorem adr_base {g : GP} {a : Nat} (h : 3 ≤ a) : gb g ≤ adr g a := by rw [adr_hi h]; omega
theorem adr_ne {g : GP} (hG : GH g) {a b : Nat} (ha : 3 ≤ a) (hne : b ≠ a) : adr g b ≠ adr g a := by
  rw [adr_hi ha]
  rcases Nat.lt_or_ge b 3 with h | h
  · obtain ⟨-, -, h0, h1, h2⟩ := hG
    match b, h with
    | 0, _ => omega
    | 1, _ => omega
    | 2, _ => omega
  · rw [adr_hi h]; omega
theorem cellOK.kept {g : GP} {kd : Int → Nat} {ln : Int → Int} {mem mem' : Int → Int → Int} {H H' : Heap} {a : Nat} (h : cellOK g kd ln mem H a) (hH : H'[adr g a]? = H[adr g a]?) (hm : ∀ j, mem' a j = mem a j) : cellOK g kd ln mem' H' a := by
  have e : mem' (a : Int) = mem a := funext hm
  refine ⟨fun c h1 h2 => ?_, fun k h1 h2 => ?_⟩
  · rw [e]
    exact (h.1 c h1 h2).kept hH
  · obtain ⟨cell, q1, q2⟩ := h.2 k h1 h2
    rw [e]
    exact ⟨cell, by rw [hH]; exact q1, q2⟩
/-- one cell is written -/
theorem Rep.put {g : GP} {kd : Int → Nat} {ln : Int → Int} {mem mem' : Int → Int → Int} {sz : Nat} {H H' : Heap} (hG : GH g) (h : Rep g kd ln mem sz H) {a : Nat} (ha : 3 ≤ a) (hz : H'.size = H.size) (ho : ∀ q : Nat, q ≠ adr g a → H'[q]? = H[q]?) (hm : ∀ b : Int, b ≠ a → mem' b = mem b) (hc : cellOK g kd ln mem' H' a) : Rep g kd ln mem' sz H' := by
  obtain ⟨h1, h2, h3, h4, h5⟩ := h
  refine ⟨h1, by omega, fun q hq => ?_, fun b hb => ?_, h5⟩
  · rw [ho q (fun e => ?_)]
    · exact h3 q hq
    · have := adr_base (g := g) ha
      omega
  · by_cases e : b = a
    · subst e; exact hc
    · exact (h4 b hb).kept (ho _ (adr_ne hG ha e)) (fun j => by rw [hm (b : Int) (by omega)])
theorem cR_nat (g : GP) (a : Nat) : cR g (a : Int) = .ref (adr g a) := rfl
theorem hts_at {g : GP} {s : State} {args : Array Value} (hG : GH g) (hW : (gs g).WarmedH s.vm) {w : Cond} (hm : w ∈ lw_tbl) (hg : goodWord w = true) : w.before args s = true := word_at hW (good_of_word hg) (hG.1 w hm)
theorem isA {g : GP} {s : State} (hW : (gs g).WarmedH s.vm) {cell : Cell} {k : Nat} (h : isArrX g cell k) : s.isArrayOf cell (aty k) := State.isArrayOf_alike hW.alike h.1
theorem ix_in {i : Int} {n : Nat} (h0 : 0 ≤ i) (h1 : i < n) (hn : n < 2147483648) : ¬ (Int32.ofInt i < 0 ∨ n ≤ (Int32.ofInt i).toNatClampNeg) ∧ (Int32.ofInt i).toNatClampNeg = i.toNat := by
  have hI : InI i := ⟨by omega, by omega⟩
  have e : (Int32.ofInt i).toNatClampNeg = i.toNat := by
    show (Int32.ofInt i).toInt.toNat = _
    rw [I_toInt hI]
  refine ⟨fun h => ?_, e⟩
  rcases h with h | h
  · have := (I_lt hI InI_0).mp h
    omega
  · rw [e] at h
    omega
section HR
variable {z : ZT} {l : Launch} {g : GP} {nL : Nat} {cells slots : Nat} {Q : State → Prop} {pc : Nat} {lo : List (Nat × AV)} {st rest : List AV} {kd : Int → Nat} {ln : Int → Int} {mem : Int → Int → Int} {sz : Nat} {cc : ByteArray} {own : String} {R : Room}
theorem fits_cty {ty : FieldType} {g : GP} {x : Int} (hb : ty = .boolean → x = 0 ∨ x = 1) (hT : ty = .int ∨ ty = .boolean ∨ ty = .long ∨ (∃ n, ty = .object n) ∨ ∃ t, ty = .array t) : narrow ty (cv g (tagOf ty, x)) = cv g (tagOf ty, x) ∧ fits ty (cv g (tagOf ty, x)) = true := by
  rcases hT with rfl | rfl | rfl | ⟨n, rfl⟩ | ⟨t, rfl⟩
  · exact ⟨rfl, rfl⟩
  · rcases hb rfl with rfl | rfl
    · exact ⟨by first | rfl | decide, by first | rfl | decide⟩
    · exact ⟨by first | rfl | decide, by first | rfl | decide⟩
  · exact ⟨rfl, rfl⟩
  · cases x <;> exact ⟨rfl, rfl⟩
  · cases x <;> exact ⟨rfl, rfl⟩
theorem jget (hF : FX z l g nL cc own R) {a : Int} {index : Nat} (c k t : Nat) (ki : Int) (hki : ki = (k : Int)) (hc : c < 14) (hk : k < (cRec c).2.2) (ht : tagOf (cty c k) = t) (hm : Cond.fieldLink own index ((cRec c).2.1 k).1 ((cRec c).2.1 k).2.1 ((cRec c).2.1 k).2.2.1 ∈ lw_tbl) (hd : decode cc pc = .ok (.getfield index, 3)) (ha : kd a = c + 1)
    (kk : J z g nL cells slots Q (pc + 3) lo ((t, mem a ki) :: rest) kd ln mem sz) : J z g nL cells slots Q pc lo ((2, a) :: rest) kd ln mem sz := by
  subst hki
  obtain ⟨p, l', e, R', s, m, args, below, meth, cd⟩ := z
  obtain ⟨hx, hb, hml, hown, hW, hG, -⟩ := hF
  intro ls H locs hl hR hq
  obtain ⟨a0, a1⟩ := hR.2.2.2.2.1 a (by rw [ha]; omega)
  obtain ⟨n, rfl⟩ := Int.eq_ofNat_of_zero_le a0
  obtain ⟨c1, c2, c3, c4⟩ := CK_all c hc
  obtain ⟨cell, q1, q2, q3, q4⟩ := (hR.2.2.2.1 n (by omega)).1 c ha hc
  obtain ⟨hS, hfc, kC, hkC, hkind⟩ := u_Kn_moved hW.alike (hG.2.1 c _ c1)
  obtain ⟨cf, kf, fi, f, hi, hsl⟩ := hS k hk
  have hts : ∀ w ∈ u_ws (cRec c).1 (cRec c).2.1 (cRec c).2.2, w.before args s = true := fun w hw => hts_at hG hW (c2 w hw) (by
    obtain ⟨j, -, rfl⟩ := List.mem_map.mp hw
    unfold u_lay
    split <;> rfl)
  refine W.getf hx hb hown (hts_at hG hW hm rfl) hi (u_facts hfc hkC (u_lays hts (fun _ h => h) hk) hi).1 q1 (by rw [q3]; exact fun h => by cases h) (v := cv g (tagOf (cty c k), mem n k)) ?_ rfl rfl hd ?_
  · rw [hsl]
    exact q4 k hk
  · subst ht
    exact kk ls H locs hl hR hq
theorem jput (hF : FX z l g nL cc own R) {a x : Int} {index : Nat} (c k t : Nat) (ki : Int) (hki : ki = (k : Int)) (hc : c < 14) (hk : k < (cRec c).2.2) (ht : tagOf (cty c k) = t) (hm : Cond.fieldLink own index ((cRec c).2.1 k).1 ((cRec c).2.1 k).2.1 ((cRec c).2.1 k).2.2.1 ∈ lw_tbl) (hd : decode cc pc = .ok (.putfield index, 3)) (hfin : ((cRec c).2.1 k).2.2.2 = false) (hT : cty c k = .int ∨ cty c k = .boolean ∨ cty c k = .long ∨ (∃ n, cty c k = .object n) ∨ ∃ t, cty c k = .array t) (ha : kd a = c + 1) (hB : cty c k = .boolean → x = 0 ∨ x = 1)
    (kk : J z g nL cells slots Q (pc + 3) lo rest kd ln (set2 mem a ki x) sz) : J z g nL cells slots Q pc lo ((t, x) :: (2, a) :: rest) kd ln mem sz := by
  subst hki
  obtain ⟨p, l', e, R', s, m, args, below, meth, cd⟩ := z
  obtain ⟨hx, hb, hml, hown, hW, hG, -⟩ := hF
  intro ls H locs hl hR hq
  obtain ⟨a0, a1⟩ := hR.2.2.2.2.1 a (by rw [ha]; omega)
  obtain ⟨n, rfl⟩ := Int.eq_ofNat_of_zero_le a0
  have hn3 : 3 ≤ n := by
    obtain ⟨k0, k1, k2⟩ := hR.2.2.2.2.2
    rcases Nat.lt_or_ge n 3 with h | h
    · match n, h with
      | 0, _ => have : kd 0 = c + 1 := ha; omega
      | 1, _ => have : kd 1 = c + 1 := ha; omega
      | 2, _ => have : kd 2 = c + 1 := ha; omega
    · exact h
  obtain ⟨c1, c2, c3, c4⟩ := CK_all c hc
  obtain ⟨cell, q1, q2, q3, q4⟩ := (hR.2.2.2.1 n (by omega)).1 c ha hc
  have hKn := u_Kn_moved hW.alike (hG.2.1 c _ c1)
  obtain ⟨hS, hfc, kC, hkC, hkind⟩ := id hKn
  obtain ⟨cf, kf, fi, f, hi, hsl⟩ := hS k hk
  have hts : ∀ w ∈ u_ws (cRec c).1 (cRec c).2.1 (cRec c).2.2, w.before args s = true := fun w hw => hts_at hG hW (c2 w hw) (by
    obtain ⟨j, -, rfl⟩ := List.mem_map.mp hw
    unfold u_lay
    split <;> rfl)
  have hst := (u_facts hfc hkC (u_lays hts (fun _ h => h) hk) hi).1
  have hlay := hts _ (u_in_lay hk)
  unfold u_lay at hlay
  rw [if_neg (by rw [hfin]; decide)] at hlay
  obtain ⟨n1, n2⟩ := fits_cty (g := g) (x := x) hB hT
  have h6 := u_store hfc hkC hkind hlay hi (c3 k hk) n1 n2
  have hap := va_apart (D := gD g) (cl := vwCl) (tys := []) (own := own) (ci := c) hts (fun _ h => h) (cty c) c3 c4 ⟨fun c' q' h' => u_Kn_moved hW.alike (hG.2.1 c' q' h'), fun k q h => by simp at h⟩ c1
  subst ht
  refine W.putK (a := adr g n) (v := cv g (tagOf (cty c k), x)) hx hb (f := f) ⟨hown, hts_at hG hW hm rfl, ⟨_, _, _, hi⟩, hst⟩ (by rw [q2]; exact h6) q1 q3 (by rw [hsl]; exact k2_hasslot (q4 k hk)) rfl rfl hd fun H' e1 e2 e3 => ?_
  rw [hsl] at e1 ⊢
  refine kk ls H' _ hl (hR.put hG hn3 e2 e3 (fun b hb => ?_) ⟨fun c' h1 h2 => ?_, fun k' h1 h2 => ?_⟩) (fun q hq' => ?_)
  · funext j
    unfold set2
    rw [if_neg (fun h => hb h.1)]
  · have hcc : c' = c := by omega
    subst hcc
    refine t_OB.to (V := updV (fun k => cv g (tagOf (cty c' k), mem n k)) k (cv g (tagOf (cty c' k), x))) ⟨_, e1, q2, q3, t_set q4 hap hk _⟩ (fun j _ => ?_)
    unfold updV set2
    by_cases hj : j = k
    · subst hj
      simp
    · have : ¬ ((j : Int) = (k : Int)) := by omega
      simp [hj, this]
  · omega
  · rcases List.mem_append.mp hq' with h | h
    · exact hq q h
    · rw [List.mem_singleton.mp h]
      exact adr_base hn3
end HR
end HEAP
