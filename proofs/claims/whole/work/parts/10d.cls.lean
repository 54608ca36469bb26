section CLS
variable {z : ZT} {l : Launch} {g : GP} {nL : Nat} {cells slots : Nat} {Q : State → Prop} {pc : Nat} {lo : List (Nat × AV)} {st rest : List AV} {kd : Int → Nat} {ln : Int → Int} {mem : Int → Int → Int} {sz : Nat} {cc : ByteArray} {own : String} {R : Room}
theorem jputF (hF : FX z l g nL cc own R) (hnm : NM z "<init>") {a x : Int} {index : Nat} (c k t : Nat) (ki : Int) (hki : ki = (k : Int)) (hc : c < 14) (hk : k < (cRec c).2.2) (ht : tagOf (cty c k) = t) (hm : Cond.fieldLink own index ((cRec c).2.1 k).1 ((cRec c).2.1 k).2.1 ((cRec c).2.1 k).2.2.1 ∈ lw_tbl) (hd : decode cc pc = .ok (.putfield index, 3)) (hfin : ((cRec c).2.1 k).2.2.2 = true) (hdecl : ((cRec c).2.1 k).1 = own) (hT : cty c k = .int ∨ cty c k = .boolean ∨ cty c k = .long ∨ (∃ n, cty c k = .object n) ∨ ∃ t, cty c k = .array t) (ha : kd a = c + 1) (hB : cty c k = .boolean → x = 0 ∨ x = 1)
    (kk : J z g nL cells slots Q (pc + 3) lo rest kd ln (set2 mem a ki x) sz) : J z g nL cells slots Q pc lo ((t, x) :: (2, a) :: rest) kd ln mem sz := by
  subst hki
  obtain ⟨p, l', e, R', s, m, args, below, meth, cd⟩ := z
  obtain ⟨hx, hb, hml, hown, hW, hG, -⟩ := hF
  intro ls H locs hl hR hq
  obtain ⟨a0, a1⟩ := hR.2.2.2.2.1 a (by rw [ha]; omega)
  obtain ⟨n, rfl⟩ := Int.eq_ofNat_of_zero_le a0
  have hn3 : 3 ≤ n := by
    obtain ⟨k0, k1, k2⟩ := hR.2.2.2.2.2
    rcases Nat.lt_or_ge n 3 with h | h
    · match n, h with
      | 0, _ => have : kd 0 = c + 1 := ha; omega
      | 1, _ => have : kd 1 = c + 1 := ha; omega
      | 2, _ => have : kd 2 = c + 1 := ha; omega
    · exact h
  obtain ⟨c1, c2, c3, c4⟩ := CK_all c hc
  obtain ⟨cell, q1, q2, q3, q4⟩ := (hR.2.2.2.1 n (by omega)).1 c ha hc
  have hKn := u_Kn_moved hW.alike (hG.2.1 c _ c1)
  obtain ⟨hS, hfc, kC, hkC, hkind⟩ := id hKn
  obtain ⟨cf, kf, fi, f, hi, hsl⟩ := hS k hk
  have hts : ∀ w ∈ u_ws (cRec c).1 (cRec c).2.1 (cRec c).2.2, w.before args s = true := fun w hw => hts_at hG hW (c2 w hw) (by
    obtain ⟨j, -, rfl⟩ := List.mem_map.mp hw
    unfold u_lay
    split <;> rfl)
  have hst := (u_facts hfc hkC (u_lays hts (fun _ h => h) hk) hi).1
  have hlay := hts _ (u_in_lay hk)
  unfold u_lay at hlay
  rw [if_pos hfin] at hlay
  obtain ⟨n1, n2⟩ := fits_cty (g := g) (x := x) hB hT
  have hcf : m.cls = cf := by
    obtain ⟨_, _, c', _, _, _, -, -, hf', -, -, -, hown2, -⟩ := Cond.laysFinal_spec hlay
    have e1 : c' = cf := by have := hi.symm.trans hf'; simp at this; exact this.1.symm
    rw [hdecl] at hown2
    rw [← e1]; exact Option.some.inj (hown.symm.trans hown2)
  have h6 := u_fits hfc hkC hkind (Or.inr hlay) hi (c3 k hk) n1 n2
  have hap := va_apart (D := gD g) (cl := vwCl) (tys := []) (own := own) (ci := c) hts (fun _ h => h) (cty c) c3 c4 ⟨fun c' q' h' => u_Kn_moved hW.alike (hG.2.1 c' q' h'), fun k q h => by simp at h⟩ c1
  subst ht
  refine W.putFinK (a := adr g n) (v := cv g (tagOf (cty c k), x)) hx hb hown (hts_at hG hW hm rfl) hi hst hcf hnm (by rw [q2]; exact h6) q1 q3 (by rw [hsl]; exact k2_hasslot (q4 k hk)) rfl rfl hd fun H' e1 e2 e3 => ?_
  rw [hsl] at e1 ⊢
  refine kk ls H' _ hl (hR.put hG hn3 e2 e3 (fun b hb => ?_) ⟨fun c' h1 h2 => ?_, fun k' h1 h2 => ?_⟩) (fun q hq' => ?_)
  · funext j
    unfold set2
    rw [if_neg (fun h => hb h.1)]
  · have hcc : c' = c := by omega
    subst hcc
    refine t_OB.to (V := updV (fun k => cv g (tagOf (cty c' k), mem n k)) k (cv g (tagOf (cty c' k), x))) ⟨_, e1, q2, q3, t_set q4 hap hk _⟩ (fun j _ => ?_)
    unfold updV set2
    by_cases hj : j = k
    · subst hj
      simp
    · have : ¬ ((j : Int) = (k : Int)) := by omega
      simp [hj, this]
  · omega
  · rcases List.mem_append.mp hq' with h | h
    · exact hq q h
    · rw [List.mem_singleton.mp h]
      exact adr_base hn3

/-- shifts of longs, as the machine's own -/
def flshl (a b : Int) : Int := (Int64.ofInt a <<< ((Int32.ofInt b).toInt64 &&& 63)).toInt
def flshr (a b : Int) : Int := (Int64.ofInt a >>> ((Int32.ofInt b).toInt64 &&& 63)).toInt
def flushr (a b : Int) : Int := ((Int64.ofInt a).toUInt64 >>> ((Int32.ofInt b).toInt64.toUInt64 &&& Int64.toUInt64 63)).toInt64.toInt
def fior (a b : Int) : Int := (Int32.ofInt a ||| Int32.ofInt b).toInt
theorem jlshl (hF : FX z l g nL cc own R) {a b : Int} (hd : decode cc pc = .ok (.lshl, 1)) (kk : J z g nL cells slots Q (pc + 1) lo ((1, flshl a b) :: rest) kd ln mem sz) : J z g nL cells slots Q pc lo ((0, b) :: (1, a) :: rest) kd ln mem sz := by
  obtain ⟨p, l', e, R', s, m, args, below, meth, cd⟩ := z
  obtain ⟨hx, hb', hml, hown, hW, hG, -⟩ := hF
  intro ls H locs hls hR hq
  exact lv_lshl hx hb' hd (v := Int64.ofInt (flshl a b)) (by unfold flshl; rw [L_of]) (kk ls H locs hls hR hq)
theorem jlshr (hF : FX z l g nL cc own R) {a b : Int} (hd : decode cc pc = .ok (.lshr, 1)) (kk : J z g nL cells slots Q (pc + 1) lo ((1, flshr a b) :: rest) kd ln mem sz) : J z g nL cells slots Q pc lo ((0, b) :: (1, a) :: rest) kd ln mem sz := by
  obtain ⟨p, l', e, R', s, m, args, below, meth, cd⟩ := z
  obtain ⟨hx, hb', hml, hown, hW, hG, -⟩ := hF
  intro ls H locs hls hR hq
  exact lv_lshr hx hb' hd (v := Int64.ofInt (flshr a b)) (by unfold flshr; rw [L_of]) (kk ls H locs hls hR hq)
theorem jlushr (hF : FX z l g nL cc own R) {a b : Int} (hd : decode cc pc = .ok (.lushr, 1)) (kk : J z g nL cells slots Q (pc + 1) lo ((1, flushr a b) :: rest) kd ln mem sz) : J z g nL cells slots Q pc lo ((0, b) :: (1, a) :: rest) kd ln mem sz := by
  obtain ⟨p, l', e, R', s, m, args, below, meth, cd⟩ := z
  obtain ⟨hx, hb', hml, hown, hW, hG, -⟩ := hF
  intro ls H locs hls hR hq
  exact lv_lushr hx hb' hd (v := Int64.ofInt (flushr a b)) (by unfold flushr; rw [L_of]) (kk ls H locs hls hR hq)
theorem jior (hF : FX z l g nL cc own R) {a b : Int} (hd : decode cc pc = .ok (.ior, 1)) (kk : J z g nL cells slots Q (pc + 1) lo ((0, fior a b) :: rest) kd ln mem sz) : J z g nL cells slots Q pc lo ((0, b) :: (0, a) :: rest) kd ln mem sz := by
  obtain ⟨p, l', e, R', s, m, args, below, meth, cd⟩ := z
  obtain ⟨hx, hb', hml, hown, hW, hG, -⟩ := hF
  intro ls H locs hls hR hq
  have hk := kk ls H locs hls hR hq
  rw [List.map_cons, show cv g (0, fior a b) = .int (Int32.ofInt a ||| Int32.ofInt b) from by simp only [cv, fior, I_of]] at hk
  exact lv_ior hx hb' hd hk
end CLS
/-! the JDK's lists -/
def fillM (mem : Int → Int → Int) (a n v : Int) : Int → Int → Int := fun b j => if b = a ∧ 0 ≤ j ∧ j < n then v else mem b j
theorem fillM_0 (mem : Int → Int → Int) (a v : Int) : fillM mem a 0 v = mem := by
  funext b j
  exact if_neg (by omega)
theorem fillM_s {mem : Int → Int → Int} {a n v : Int} (h : 0 ≤ n) : set2 (fillM mem a n v) a n v = fillM mem a (n + 1) v := by
  funext b j
  unfold set2 fillM
  by_cases h1 : b = a ∧ j = n
  · rw [if_pos h1, if_pos (by omega)]
  · rw [if_neg h1]
    by_cases h2 : b = a ∧ 0 ≤ j ∧ j < n
    · rw [if_pos h2, if_pos (by omega)]
    · rw [if_neg h2, if_neg (by omega)]
