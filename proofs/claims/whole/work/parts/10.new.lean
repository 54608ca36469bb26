section NEW
def upK (kd : Int → Nat) (a : Int) (v : Nat) : Int → Nat := fun b => if b = a then v else kd b
def upL (ln : Int → Int) (a : Int) (v : Int) : Int → Int := fun b => if b = a then v else ln b
def dfl (c : Nat) (k : Nat) : Int := if tagOf (cty c k) = 2 then -1 else 0
def newO (c : Nat) (mem : Int → Int → Int) (a : Int) : Int → Int → Int := fun b j => if b = a then dfl c j.toNat else mem b j
def newA (d : Int) (mem : Int → Int → Int) (a : Int) : Int → Int → Int := fun b j => if b = a then d else mem b j
theorem cellOK.same {g : GP} {kd kd' : Int → Nat} {ln ln' : Int → Int} {mem mem' : Int → Int → Int} {H H' : Heap} {a : Nat} (h : cellOK g kd ln mem H a) (hH : H'[adr g a]? = H[adr g a]?) (h1 : kd' a = kd a) (h2 : ln' a = ln a) (hm : mem' (a : Int) = mem a) : cellOK g kd' ln' mem' H' a := by
  refine ⟨fun c q1 q2 => ?_, fun k q1 q2 => ?_⟩
  · rw [hm]
    exact (h.1 c (by rw [← h1]; exact q1) q2).kept hH
  · obtain ⟨cell, p1, p2⟩ := h.2 k (by rw [← h1]; exact q1) q2
    rw [hm, h2]
    exact ⟨cell, by rw [hH]; exact p1, p2⟩
theorem Rep.push {g : GP} {kd kd' : Int → Nat} {ln ln' : Int → Int} {mem mem' : Int → Int → Int} {sz : Nat} {H H' : Heap} (hG : GH g) (h : Rep g kd ln mem sz H) (hz : H'.size = H.size + 1) (ho : ∀ q : Nat, q < H.size → H'[q]? = H[q]?) (h1 : ∀ b : Int, b ≠ sz → kd' b = kd b) (h2 : ∀ b : Int, b ≠ sz → ln' b = ln b) (hm : ∀ b : Int, b ≠ sz → mem' b = mem b) (hc : adr g sz = H.size → cellOK g kd' ln' mem' H' sz) : Rep g kd' ln' mem' (sz + 1) H' := by
  obtain ⟨q1, q2, q3, q4, q5, q6, q7, q8⟩ := h
  refine ⟨by omega, by omega, fun q hq => ?_, fun b hb => ?_, fun b hb => ?_, ?_, ?_, ?_⟩
  · rw [ho q (by omega)]
    exact q3 q hq
  · by_cases e : b = sz
    · subst e
      exact hc (by rw [adr_hi q1]; omega)
    · refine (q4 b (by omega)).same (ho _ ?_) (h1 _ (by omega)) (h2 _ (by omega)) (hm _ (by omega))
      rcases Nat.lt_or_ge b 3 with hb3 | hb3
      · obtain ⟨-, -, g0, g1, g2⟩ := hG
        match b, hb3 with
        | 0, _ => omega
        | 1, _ => omega
        | 2, _ => omega
      · rw [adr_hi hb3]; omega
  · by_cases e : b = sz
    · omega
    · rw [h1 b e] at hb
      have := q5 b hb
      omega
  · rw [h1 _ (by omega)]; exact q6
  · rw [h1 _ (by omega)]; exact q7
  · rw [h1 _ (by omega)]; exact q8
theorem dflV (g : GP) (ty : FieldType) (hT : ty = .int ∨ ty = .boolean ∨ ty = .long ∨ (∃ n, ty = .object n) ∨ ∃ t, ty = .array t) : defaultValue ty = cv g (tagOf ty, if tagOf ty = 2 then -1 else 0) := by
  rcases hT with rfl | rfl | rfl | ⟨n, rfl⟩ | ⟨t, rfl⟩ <;> rfl
theorem dflA (g : GP) {k : Nat} (hk : k < 3) : defaultValue (aty k) = cv g (atg k, 0) := by
  rcases (show k = 0 ∨ k = 1 ∨ k = 2 by omega) with rfl | rfl | rfl <;> rfl
section NR
variable {z : ZT} {l : Launch} {g : GP} {nL : Nat} {cells slots : Nat} {Q : State → Prop} {pc : Nat} {lo : List (Nat × AV)} {st rest : List AV} {kd : Int → Nat} {ln : Int → Int} {mem : Int → Int → Int} {sz : Nat} {cc : ByteArray} {own : String} {R : Room}
/-- every field's type is one of those -/
def okT (c : Nat) : Prop := ∀ k, k < (cRec c).2.2 → cty c k = .int ∨ cty c k = .boolean ∨ cty c k = .long ∨ (∃ n, cty c k = .object n) ∨ ∃ t, cty c k = .array t
theorem jnew (hF : FX z l g nL cc own R) {index : Nat} (c : Nat) (hc : c < 14) (hT : okT c) (hcl : Cond.classLink own index (cRec c).1 ∈ lw_tbl) (hin : Cond.instantiable (cRec c).1 (cRec c).2.2 ∈ lw_tbl) (hini : Cond.initialized (cRec c).1 ∈ lw_tbl) (hd : decode cc pc = .ok (.new index, 3)) (hcs : cells + 1 ≤ R.cells ∧ slots + (cRec c).2.2 ≤ R.slots)
    (kk : J z g nL (cells + 1) (slots + (cRec c).2.2) Q (pc + 3) lo ((2, (sz : Int)) :: st) (upK kd sz (c + 1)) ln (newO c mem sz) (sz + 1)) : J z g nL cells slots Q pc lo st kd ln mem sz := by
  obtain ⟨p, l', e, R', s, m, args, below, meth, cd⟩ := z
  obtain ⟨hx, hb, hml, hown, hW, hG, hlk, rfl, rfl⟩ := hF
  intro ls H locs hls hR hq
  obtain ⟨c1, c2, c3, c4⟩ := CK_all c hc
  have hKn := u_Kn_moved hW.alike (hG.2.1 c _ c1)
  have hts : ∀ w ∈ u_ws (cRec c).1 (cRec c).2.1 (cRec c).2.2, w.before args s = true := fun w hw => hts_at hG hW (c2 w hw) (by
    obtain ⟨j, -, rfl⟩ := List.mem_map.mp hw
    unfold u_lay
    split <;> rfl)
  refine W.newcK hx hb hown (hts_at hG hW hcl rfl) (hts_at hG hW hin rfl) (hts_at hG hW hini rfl) rfl hd hcs.1 hcs.2 hKn.2.1 rfl fun H1 kC hkC e1 z1 o1 => ?_
  have ha : adr g sz = H.size := by rw [adr_hi hR.1]; have := hR.2.1; have := hR.1; omega
  have hk := kk ls H1 locs hls (hR.push hG z1 o1 (fun b hb => if_neg hb) (fun _ _ => rfl) (fun b hb => by funext j; exact if_neg hb) (fun _ => ⟨fun c' h1 h2 => ?_, fun k h1 h2 => ?_⟩)) hq
  · have e2 : ((2, (sz : Int)) :: st).map (cv g) = .ref H.size :: st.map (cv g) := by
      rw [List.map_cons]
      show Value.ref (adr g sz) :: _ = _
      rw [ha]
    rw [e2] at hk
    exact hk
  · unfold upK at h1
    rw [if_pos rfl] at h1
    have hcc : c' = c := by omega
    subst hcc
    rw [ha]
    refine (u_born (cty c') hts (fun _ h => h) hKn hkC e1 c3).to (fun k hk => ?_)
    show _ = cv g (tagOf (cty c' k), newO c' mem sz sz k)
    unfold newO
    rw [if_pos rfl]
    exact dflV g _ (hT k hk)
  · unfold upK at h1
    rw [if_pos rfl] at h1
    omega
theorem jnewa (hF : FX z l g nL cc own R) {at' : ArrayType} {n : Int} (k : Nat) (hk : k < 3) (hty : newarray.typeOf at' = aty k) (hw : Cond.arrayClass (aty k) ∈ lw_tbl) (hd : decode cc pc = .ok (.newarray at', 2)) (h0 : 0 ≤ n) (h1 : n ≤ 65536) (hcs : cells + 1 ≤ R.cells ∧ slots + n.toNat ≤ R.slots)
    (kk : J z g nL (cells + 1) (slots + n.toNat) Q (pc + 2) lo ((2, (sz : Int)) :: rest) (upK kd sz (k + 20)) (upL ln sz n) (newA 0 mem sz) (sz + 1)) : J z g nL cells slots Q pc lo ((0, n) :: rest) kd ln mem sz := by
  obtain ⟨p, l', e, R', s, m, args, below, meth, cd⟩ := z
  obtain ⟨hx, hb, hml, hown, hW, hG, hlk, rfl, rfl⟩ := hF
  intro ls H locs hls hR hq
  have hI : InI n := ⟨by omega, by omega⟩
  have hN : (Int32.ofInt n).toNatClampNeg = n.toNat := by
    show (Int32.ofInt n).toInt.toNat = _
    rw [I_toInt hI]
  refine va_newaK (N := n.toNat) hx hb (by rw [hty]; exact hts_at hG hW hw rfl) rfl hd rfl (fun h => by have := (I_lt hI InI_0).mp h; omega) hN ?_ hcs.1 hcs.2 rfl fun H1 cA e1 z1 o1 hAr hNm => ?_
  · rw [hty]
    have : componentBytes (aty k) ≤ 8 := by
      match k, hk with
      | 0, _ => decide
      | 1, _ => decide
      | 2, _ => decide
    have h2 : n.toNat * componentBytes (aty k) ≤ 65536 * 8 := Nat.mul_le_mul (by omega) this
    omega
  have ha : adr g sz = H.size := by rw [adr_hi hR.1]; have := hR.2.1; have := hR.1; omega
  have hk1 := kk ls H1 locs hls (hR.push hG z1 o1 (fun b hb => if_neg hb) (fun b hb => if_neg hb) (fun b hb => by funext j; exact if_neg hb) (fun _ => ⟨fun c' h1 h2 => ?_, fun k' h1 h2 => ?_⟩)) hq
  · have e2 : ((2, (sz : Int)) :: rest).map (cv g) = .ref H.size :: rest.map (cv g) := by
      rw [List.map_cons]
      show Value.ref (adr g sz) :: _ = _
      rw [ha]
    rw [e2] at hk1
    exact hk1
  · unfold upK at h1
    rw [if_pos rfl] at h1
    omega
  · unfold upK at h1
    rw [if_pos rfl] at h1
    have hkk : k' = k := by omega
    subst hkk
    rw [hty] at e1 hAr
    obtain ⟨cA', kA, comp, w1, w2, w3⟩ := Cond.arrayClass_spec (hG.1 _ hw)
    have hcA : cA = cA' := by
      rw [hty] at hNm
      rw [hW.alike.findClass, w1] at hNm
      exact (Option.some.inj hNm).symm
    subst hcA
    have e2 : H1[adr g sz]? = some (arrV cA n.toNat (fun _ => defaultValue (aty k'))) := by rw [ha]; exact e1
    have e3 : (gs g).isArrayOf (arrV cA n.toNat (fun _ => defaultValue (aty k'))) (aty k') := ⟨fun k h => (by cases h), kA, w2, comp, w3⟩
    refine ⟨arrV cA n.toNat (fun _ => defaultValue (aty k')), e2, ⟨e3, fun h => by omega⟩, ?_, ?_, ?_, fun j hj => ?_⟩
    · intro q
      cases q
    · rw [arrV_size]
      unfold upL
      rw [if_pos rfl]
      omega
    · rw [arrV_size]
      omega
    rw [arrV_size] at hj
    rw [arrV_read _ _ hj]
    show _ = some (cv g (atg k', newA 0 mem sz sz j))
    unfold newA
    rw [if_pos rfl]
    rw [dflA g hk]
end NR
end NEW
