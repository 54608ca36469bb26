section ARR
variable {z : ZT} {l : Launch} {g : GP} {nL : Nat} {cells slots : Nat} {Q : State → Prop} {pc : Nat} {lo : List (Nat × AV)} {st rest : List AV} {kd : Int → Nat} {ln : Int → Int} {mem : Int → Int → Int} {sz : Nat} {cc : ByteArray} {own : String} {R : Room}
theorem arrOK.at {g : GP} {k : Nat} {n : Int} {f : Int → Int} {q : Nat} {H : Heap} (h : arrOK g k n f q H) {i : Int} (h0 : 0 ≤ i) (h1 : i < n) : ∃ cell : Cell, H[q]? = some cell ∧ isArrX g cell k ∧ cell.vm ≠ .unknown ∧ ¬ (Int32.ofInt i < 0 ∨ cell.slots.size ≤ (Int32.ofInt i).toNatClampNeg) ∧ (Int32.ofInt i).toNatClampNeg = i.toNat ∧ cell.slots[(Int32.ofInt i).toNatClampNeg]? = some (cv g (atg k, f i)) := by
  obtain ⟨cell, q1, q2, q3, q4, q5, q6⟩ := h
  obtain ⟨e1, e2⟩ := ix_in h0 (by omega : i < cell.slots.size) q5
  refine ⟨cell, q1, q2, q3, e1, e2, ?_⟩
  rw [e2, q6 i.toNat (by omega), Int.toNat_of_nonneg h0]
theorem jiald (hF : FX z l g nL cc own R) {a i : Int} (hd : decode cc pc = .ok (.iaload, 1)) (ha : kd a = 20) (h0 : 0 ≤ i) (h1 : i < ln a) (kk : J z g nL cells slots Q (pc + 1) lo ((0, mem a i) :: rest) kd ln mem sz) : J z g nL cells slots Q pc lo ((0, i) :: (2, a) :: rest) kd ln mem sz := by
  obtain ⟨p, l', e, R', s, m, args, below, meth, cd⟩ := z
  obtain ⟨hx, hb, hml, hown, hW, hG, -⟩ := hF
  intro ls H locs hl hR hq
  obtain ⟨a0, a1⟩ := hR.2.2.2.2.1 a (by rw [ha]; omega)
  obtain ⟨n, rfl⟩ := Int.eq_ofNat_of_zero_le a0
  obtain ⟨cell, q1, q2, q3, q4, q5, q6⟩ := ((hR.2.2.2.1 n (by omega)).2 0 ha (by omega)).at h0 h1
  exact W.iald (a := adr g n) (v := cv g (0, mem n i)) hx hb q1 (isA hW q2) q3 q4 q6 rfl rfl hd (kk ls H locs hl hR hq)
theorem jlald (hF : FX z l g nL cc own R) {a i : Int} (hd : decode cc pc = .ok (.laload, 1)) (ha : kd a = 21) (h0 : 0 ≤ i) (h1 : i < ln a) (kk : J z g nL cells slots Q (pc + 1) lo ((1, mem a i) :: rest) kd ln mem sz) : J z g nL cells slots Q pc lo ((0, i) :: (2, a) :: rest) kd ln mem sz := by
  obtain ⟨p, l', e, R', s, m, args, below, meth, cd⟩ := z
  obtain ⟨hx, hb, hml, hown, hW, hG, -⟩ := hF
  intro ls H locs hl hR hq
  obtain ⟨a0, a1⟩ := hR.2.2.2.2.1 a (by rw [ha]; omega)
  obtain ⟨n, rfl⟩ := Int.eq_ofNat_of_zero_le a0
  obtain ⟨cell, q1, q2, q3, q4, q5, q6⟩ := ((hR.2.2.2.1 n (by omega)).2 1 ha (by omega)).at h0 h1
  exact W.lald (a := adr g n) (v := cv g (1, mem n i)) hx hb q1 (isA hW q2) q3 q4 q6 rfl rfl hd (kk ls H locs hl hR hq)
theorem jzald (hF : FX z l g nL cc own R) {a i : Int} (hd : decode cc pc = .ok (.baload, 1)) (ha : kd a = 22) (h0 : 0 ≤ i) (h1 : i < ln a) (kk : J z g nL cells slots Q (pc + 1) lo ((0, mem a i) :: rest) kd ln mem sz) : J z g nL cells slots Q pc lo ((0, i) :: (2, a) :: rest) kd ln mem sz := by
  obtain ⟨p, l', e, R', s, m, args, below, meth, cd⟩ := z
  obtain ⟨hx, hb, hml, hown, hW, hG, -⟩ := hF
  intro ls H locs hl hR hq
  obtain ⟨a0, a1⟩ := hR.2.2.2.2.1 a (by rw [ha]; omega)
  obtain ⟨n, rfl⟩ := Int.eq_ofNat_of_zero_le a0
  obtain ⟨cell, q1, q2, q3, q4, q5, q6⟩ := ((hR.2.2.2.1 n (by omega)).2 2 ha (by omega)).at h0 h1
  exact W.zald (a := adr g n) (v := cv g (0, mem n i)) hx hb q1 (isA hW q2) q3 q4 q6 rfl rfl hd (kk ls H locs hl hR hq)
theorem arrOK.put {g : GP} {kd : Int → Nat} {ln : Int → Int} {mem : Int → Int → Int} {H H' : Heap} {n : Nat} {k : Nat} {cell : Cell} (hk : k < 4) (ha : kd n = k + 20) (h : arrOK g k (ln n) (mem n) (adr g n) H) (q1 : H[adr g n]? = some cell) {i x : Int} (h0 : 0 ≤ i) (h1 : i < ln n) {j : Nat} (hj : j = i.toNat) (e : H'[adr g n]? = some (cell.setSlot j (cv g (atg k, x)))) : cellOK g kd ln (set2 mem n i x) H' n := by
  refine ⟨fun c h3 h4 => by omega, fun k' h3 h4 => ?_⟩
  have hkk : k' = k := by omega
  subst hkk
  obtain ⟨cell', p1, p2, p3, p4, p5, p6⟩ := h
  cases q1.symm.trans p1
  have hsz : (cell.setSlot j (cv g (atg k', x))).slots.size = cell.slots.size := k2_slotsz _ _ _
  refine ⟨_, e, p2, p3, by rw [hsz]; exact p4, by rw [hsz]; exact p5, fun b hb => ?_⟩
  rw [hsz] at hb
  unfold Cell.setSlot
  rw [Array.getElem?_setIfInBounds]
  by_cases hbj : j = b
  · subst hbj
    rw [if_pos rfl, if_pos hb]
    unfold set2
    rw [if_pos ⟨rfl, by omega⟩]
  · rw [if_neg hbj, p6 b hb]
    unfold set2
    rw [if_neg (fun q => hbj (by omega))]
theorem jiast (hF : FX z l g nL cc own R) {a i x : Int} (hd : decode cc pc = .ok (.iastore, 1)) (h3 : 3 ≤ a) (ha : kd a = 20) (h0 : 0 ≤ i) (h1 : i < ln a) (kk : J z g nL cells slots Q (pc + 1) lo rest kd ln (set2 mem a i x) sz) : J z g nL cells slots Q pc lo ((0, x) :: (0, i) :: (2, a) :: rest) kd ln mem sz := by
  obtain ⟨p, l', e, R', s, m, args, below, meth, cd⟩ := z
  obtain ⟨hx, hb, hml, hown, hW, hG, -⟩ := hF
  intro ls H locs hl hR hq
  obtain ⟨a0, a1⟩ := hR.2.2.2.2.1 a (by rw [ha]; omega)
  obtain ⟨n, rfl⟩ := Int.eq_ofNat_of_zero_le a0
  have hO := (hR.2.2.2.1 n (by omega)).2 0 ha (by omega)
  obtain ⟨cell, q1, q2, q3, q4, q5, q6⟩ := hO.at h0 h1
  refine W.iast (a := adr g n) (x := Int32.ofInt x) hx hb q1 (isA hW q2) q3 q4 rfl rfl hd fun H' e1 e2 e3 => ?_
  refine kk ls H' _ hl (hR.put hG (a := n) (by omega) e2 e3 (fun b hb => ?_) (hO.put (by omega) ha q1 h0 h1 q5 ?_)) (fun q hq' => ?_)
  · funext j
    unfold set2
    rw [if_neg (fun h => hb h.1)]
  · rw [e1]; rfl
  · rcases List.mem_append.mp hq' with h | h
    · exact hq q h
    · rw [List.mem_singleton.mp h]
      exact adr_base (by omega)
theorem jlast (hF : FX z l g nL cc own R) {a i x : Int} (hd : decode cc pc = .ok (.lastore, 1)) (h3 : 3 ≤ a) (ha : kd a = 21) (h0 : 0 ≤ i) (h1 : i < ln a) (kk : J z g nL cells slots Q (pc + 1) lo rest kd ln (set2 mem a i x) sz) : J z g nL cells slots Q pc lo ((1, x) :: (0, i) :: (2, a) :: rest) kd ln mem sz := by
  obtain ⟨p, l', e, R', s, m, args, below, meth, cd⟩ := z
  obtain ⟨hx, hb, hml, hown, hW, hG, -⟩ := hF
  intro ls H locs hl hR hq
  obtain ⟨a0, a1⟩ := hR.2.2.2.2.1 a (by rw [ha]; omega)
  obtain ⟨n, rfl⟩ := Int.eq_ofNat_of_zero_le a0
  have hO := (hR.2.2.2.1 n (by omega)).2 1 ha (by omega)
  obtain ⟨cell, q1, q2, q3, q4, q5, q6⟩ := hO.at h0 h1
  refine W.last (a := adr g n) (x := Int64.ofInt x) hx hb q1 (isA hW q2) q3 q4 rfl rfl hd fun H' e1 e2 e3 => ?_
  refine kk ls H' _ hl (hR.put hG (a := n) (by omega) e2 e3 (fun b hb => ?_) (hO.put (by omega) ha q1 h0 h1 q5 ?_)) (fun q hq' => ?_)
  · funext j
    unfold set2
    rw [if_neg (fun h => hb h.1)]
  · rw [e1]; rfl
  · rcases List.mem_append.mp hq' with h | h
    · exact hq q h
    · rw [List.mem_singleton.mp h]
      exact adr_base (by omega)
theorem jzast (hF : FX z l g nL cc own R) {a i x : Int} (hd : decode cc pc = .ok (.bastore, 1)) (h3 : 3 ≤ a) (ha : kd a = 22) (h0 : 0 ≤ i) (h1 : i < ln a) (hx01 : x = 0 ∨ x = 1) (kk : J z g nL cells slots Q (pc + 1) lo rest kd ln (set2 mem a i x) sz) : J z g nL cells slots Q pc lo ((0, x) :: (0, i) :: (2, a) :: rest) kd ln mem sz := by
  obtain ⟨p, l', e, R', s, m, args, below, meth, cd⟩ := z
  obtain ⟨hx, hb, hml, hown, hW, hG, -⟩ := hF
  intro ls H locs hl hR hq
  obtain ⟨a0, a1⟩ := hR.2.2.2.2.1 a (by rw [ha]; omega)
  obtain ⟨n, rfl⟩ := Int.eq_ofNat_of_zero_le a0
  have hO := (hR.2.2.2.1 n (by omega)).2 2 ha (by omega)
  obtain ⟨cell, q1, q2, q3, q4, q5, q6⟩ := hO.at h0 h1
  refine W.zast (a := adr g n) (x := Int32.ofInt x) hx hb q1 (isA hW q2) q3 q4 rfl rfl hd fun H' e1 e2 e3 => ?_
  refine kk ls H' _ hl (hR.put hG (a := n) (by omega) e2 e3 (fun b hb => ?_) (hO.put (by omega) ha q1 h0 h1 q5 ?_)) (fun q hq' => ?_)
  · funext j
    unfold set2
    rw [if_neg (fun h => hb h.1)]
  · rw [e1]; rcases hx01 with rfl | rfl <;> rfl
  · rcases List.mem_append.mp hq' with h | h
    · exact hq q h
    · rw [List.mem_singleton.mp h]
      exact adr_base (by omega)
theorem jalen (hF : FX z l g nL cc own R) {a : Int} (k : Nat) (hk : k < 4) (hd : decode cc pc = .ok (.arraylength, 1)) (ha : kd a = k + 20) (kk : J z g nL cells slots Q (pc + 1) lo ((0, ln a) :: rest) kd ln mem sz) : J z g nL cells slots Q pc lo ((2, a) :: rest) kd ln mem sz := by
  obtain ⟨p, l', e, R', s, m, args, below, meth, cd⟩ := z
  obtain ⟨hx, hb, hml, hown, hW, hG, -⟩ := hF
  intro ls H locs hl hR hq
  obtain ⟨a0, a1⟩ := hR.2.2.2.2.1 a (by rw [ha]; omega)
  obtain ⟨n, rfl⟩ := Int.eq_ofNat_of_zero_le a0
  obtain ⟨cell, q1, q2, q3, q4, q5, q6⟩ := (hR.2.2.2.1 n (by omega)).2 k ha hk
  refine W.alen (n := Int32.ofInt (ln n)) hx hb q1 (isA hW q2) ?_ rfl rfl hd (kk ls H locs hl hR hq)
  rw [← q4]
  apply Int32.toInt_inj.mp
  rw [I_toInt ⟨by omega, by omega⟩]
  exact nI_toInt (by omega)
theorem jldc (hF : FX z l g nL cc own R) {index : Nat} (v : Int) (hm : Cond.constant own index (Int32.ofInt v) ∈ lw_tbl) (hd : decode cc pc = .ok (.ldc index, 2)) (kk : J z g nL cells slots Q (pc + 2) lo ((0, v) :: rest) kd ln mem sz) : J z g nL cells slots Q pc lo rest kd ln mem sz := by
  obtain ⟨p, l', e, R', s, m, args, below, meth, cd⟩ := z
  obtain ⟨hx, hb, hml, hown, hW, hG, -⟩ := hF
  exact fun ls H locs hl hR hq => lv_ldc hx hb hown (hts_at hG hW hm rfl) hd (kk ls H locs hl hR hq)
theorem jldc2 (hF : FX z l g nL cc own R) {index : Nat} (v : Int) (hm : Cond.constantLong own index (Int64.ofInt v) ∈ lw_tbl) (hd : decode cc pc = .ok (.ldc2_w index, 3)) (kk : J z g nL cells slots Q (pc + 3) lo ((1, v) :: rest) kd ln mem sz) : J z g nL cells slots Q pc lo rest kd ln mem sz := by
  obtain ⟨p, l', e, R', s, m, args, below, meth, cd⟩ := z
  obtain ⟨hx, hb, hml, hown, hW, hG, -⟩ := hF
  exact fun ls H locs hl hR hq => lv_ldc2 hx hb hown (hts_at hG hW hm rfl) hd (kk ls H locs hl hR hq)
theorem jlconst (hF : FX z l g nL cc own R) {n : Fin 2} (v : Int) (hv : ((n : Nat) : Int) = v) (hd : decode cc pc = .ok (.lconst n, 1)) (kk : J z g nL cells slots Q (pc + 1) lo ((1, v) :: rest) kd ln mem sz) : J z g nL cells slots Q pc lo rest kd ln mem sz := by
  obtain ⟨p, l', e, R', s, m, args, below, meth, cd⟩ := z
  obtain ⟨hx, hb, hml, hown, hW, hG, -⟩ := hF
  subst hv
  exact fun ls H locs hl hR hq => lv_lconst hx hb hd (by first | rfl | (match n with | 0 => rfl | 1 => rfl)) (kk ls H locs hl hR hq)
theorem jtabOut (hF : FX z l g nL cc own R) {x dflt lo' hi : Int} {offs : Array Int} {len : Nat} (tgt : Nat) (hd : decode cc pc = .ok (.tableswitch dflt lo' hi offs, len)) (hI : InI x) (h : x < lo' ∨ hi < x) (ht : (pc : Int) + dflt = (tgt : Int)) (kk : J z g nL cells slots Q tgt lo rest kd ln mem sz) : J z g nL cells slots Q pc lo ((0, x) :: rest) kd ln mem sz := by
  obtain ⟨p, l', e, R', s, m, args, below, meth, cd⟩ := z
  obtain ⟨hx, hb, hml, hown, hW, hG, -⟩ := hF
  exact fun ls H locs hl hR hq => lv_tableOut hx hb hd (by rw [I_toInt hI]; exact h) ht (kk ls H locs hl hR hq)
theorem jtabIn (hF : FX z l g nL cc own R) {x dflt lo' hi : Int} {offs : Array Int} {len : Nat} (v : Int) (off : Int) (tgt : Nat) (hd : decode cc pc = .ok (.tableswitch dflt lo' hi offs, len)) (hv : x = v) (hI : InI v) (h1 : ¬ v < lo') (h2 : ¬ hi < v) (ho : offs[(v - lo').toNat]? = some off) (ht : (pc : Int) + off = (tgt : Int)) (kk : J z g nL cells slots Q tgt lo rest kd ln mem sz) : J z g nL cells slots Q pc lo ((0, x) :: rest) kd ln mem sz := by
  subst hv
  obtain ⟨p, l', e, R', s, m, args, below, meth, cd⟩ := z
  obtain ⟨hx, hb, hml, hown, hW, hG, -⟩ := hF
  exact fun ls H locs hl hR hq => lv_tableIn hx hb hd (by rw [I_toInt hI]; exact h1) (by rw [I_toInt hI]; exact h2) (by rw [I_toInt hI]; exact ho) ht (kk ls H locs hl hR hq)
theorem jwiden {k n : Nat} (h1 : cells ≤ k) (h2 : slots ≤ n) (kk : J z g nL k n Q pc lo st kd ln mem sz) : J z g nL cells slots Q pc lo st kd ln mem sz := by
  obtain ⟨p, l', e, R', s, m, args, below, meth, cd⟩ := z
  exact fun ls H locs hl hR hq => W.widen h1 h2 (kk ls H locs hl hR hq)
theorem jsub {lo' : List (Nat × AV)} (ks : List Nat) (h : ks.filterMap (fun k => lo[k]?) = lo') (kk : J z g nL cells slots Q pc lo' st kd ln mem sz) : J z g nL cells slots Q pc lo st kd ln mem sz := by
  obtain ⟨p, l', e, R', s, m, args, below, meth, cd⟩ := z
  intro ls H locs hl hR hq
  refine kk ls H locs ⟨hl.1, hl.2.1, fun q hq' => ?_⟩ hR hq
  subst h
  obtain ⟨x, hx, rfl⟩ := List.mem_map.mp hq'
  obtain ⟨k, -, hk⟩ := List.mem_filterMap.mp hx
  exact hl.2.2 _ (List.mem_map.mpr ⟨x, List.mem_of_getElem? hk, rfl⟩)
end ARR
