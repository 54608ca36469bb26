section JREF
variable {z : ZT} {l : Launch} {g : GP} {nL : Nat} {cells slots : Nat} {Q : State → Prop} {pc : Nat} {lo : List (Nat × AV)} {st rest : List AV} {kd : Int → Nat} {ln : Int → Int} {mem : Int → Int → Int} {sz : Nat} {cc : ByteArray} {own : String} {R : Room}
/-- static fields that are only read -/
def STA (g : GP) (C n d : String) (a : Nat) : Prop := va_Z C n d (.ref (adr g a)) (fun q => gb g ≤ q) (gs g) (gs g).heap
theorem jgets (hF : FX z l g nL cc own R) {C n d : String} (a : Nat) {index : Nat} (hZ : STA g C n d a) (hl : Cond.fieldLink own index C n d ∈ lw_tbl) (hd : decode cc pc = .ok (.getstatic index, 3)) (kk : J z g nL cells slots Q (pc + 3) lo ((2, (a : Int)) :: st) kd ln mem sz) : J z g nL cells slots Q pc lo st kd ln mem sz := by
  obtain ⟨p, l', e, R', s, m, args, below, meth, cd⟩ := z
  obtain ⟨hx, hb, hml, hown, hW, hG, -⟩ := hF
  intro ls H locs hls hR hq
  obtain ⟨cf, kf, fi, f, aa, cell, h1, h2, h3, h4, h5, h6, h7, h8⟩ := hZ.moved hW.alike
  have hlt : aa < gb g := (Array.getElem?_eq_some_iff.mp h5).1
  exact W.gets hx hb hown (hts_at hG hW hl rfl) h1 h2 h3 h4 (by rw [hR.2.2.1 aa hlt]; exact h5) (fun e => by rw [e] at h6; cases h6) h7 rfl hd (kk ls H locs hls hR hq)
theorem jaald (hF : FX z l g nL cc own R) {a i : Int} (hd : decode cc pc = .ok (.aaload, 1)) (ha : kd a = 23) (h0 : 0 ≤ i) (h1 : i < ln a) (kk : J z g nL cells slots Q (pc + 1) lo ((2, mem a i) :: rest) kd ln mem sz) : J z g nL cells slots Q pc lo ((0, i) :: (2, a) :: rest) kd ln mem sz := by
  obtain ⟨p, l', e, R', s, m, args, below, meth, cd⟩ := z
  obtain ⟨hx, hb, hml, hown, hW, hG, -⟩ := hF
  intro ls H locs hl hR hq
  obtain ⟨a0, a1⟩ := hR.2.2.2.2.1 a (by rw [ha]; omega)
  obtain ⟨n, rfl⟩ := Int.eq_ofNat_of_zero_le a0
  obtain ⟨cell, q1, q2, q3, q4, q5, q6⟩ := ((hR.2.2.2.1 n (by omega)).2 3 ha (by omega)).at h0 h1
  have hv : cv g (atg 3, mem n i) = cR g (mem n i) := rfl
  rw [hv] at q6
  cases hm : mem n i with
  | ofNat x =>
    rw [hm] at q6
    have hk := kk ls H locs hl hR hq
    rw [hm] at hk
    exact W.aald (a := adr g n) (v := .ref (adr g x)) (ty := aty 3) hx hb q1 (isA hW q2) rfl q3 q4 q6 rfl rfl hd hk
  | negSucc x =>
    rw [hm] at q6
    have hk := kk ls H locs hl hR hq
    rw [hm] at hk
    exact W.aald (a := adr g n) (v := .null) (ty := aty 3) hx hb q1 (isA hW q2) rfl q3 q4 q6 rfl rfl hd hk
/-- an object laid into a row of references -/
theorem jaast (hF : FX z l g nL cc own R) {a i v : Int} (c : Nat) (hc : c < 14) (hv : kd v = c + 1) (hca : Cond.castable (cRec c).1 "java/lang/Object" ∈ lw_tbl) (hao : Cond.arrayOver (.object "java/lang/Object") ∈ lw_tbl) (hd : decode cc pc = .ok (.aastore, 1)) (h3 : 3 ≤ a) (ha : kd a = 23) (h0 : 0 ≤ i) (h1 : i < ln a) (kk : J z g nL cells slots Q (pc + 1) lo rest kd ln (set2 mem a i v) sz) : J z g nL cells slots Q pc lo ((2, v) :: (0, i) :: (2, a) :: rest) kd ln mem sz := by
  obtain ⟨p, l', e, R', s, m, args, below, meth, cd⟩ := z
  obtain ⟨hx, hb, hml, hown, hW, hG, -⟩ := hF
  intro ls H locs hl hR hq
  obtain ⟨a0, a1⟩ := hR.2.2.2.2.1 a (by rw [ha]; omega)
  obtain ⟨n, rfl⟩ := Int.eq_ofNat_of_zero_le a0
  have hO := (hR.2.2.2.1 n (by omega)).2 3 ha (by omega)
  obtain ⟨cell, q1, q2, q3, q4, q5, q6⟩ := hO.at h0 h1
  obtain ⟨w, rfl, cellV, g1, g2, g3⟩ := recvOK (s := s) hG hW hR hc hv
  obtain ⟨comp, cA, kA, f1, -, f3, f4, f5⟩ := Cond.arrayOver_spec (va_AO.use (A := args) (va_AO.moved hW.alike (va_AO.of (hG.1 _ hao))))
  obtain ⟨c0, t1, e1, e2, e3⟩ := Cond.castable_spec (va_Nw.use (A := args) rfl (va_Nw.warmC hW (va_Nw.of rfl (hG.1 _ hca))))
  have hcA : cA = cell.cls := by
    have h9 := q2.2 rfl
    rw [← hW.alike.findClass] at h9
    have h8 : s.vm.findClass "[Ljava/lang/Object;" = some cA := f5
    exact Option.some.inj (h8.symm.trans h9)
  subst hcA
  cases f1.symm.trans e2
  cases g3.symm.trans e1
  obtain ⟨kE, hkE, -⟩ := Vm.findClass_spec f1
  obtain ⟨kC, hkC, -⟩ := Vm.findClass_spec g3
  have hlt : (Int32.ofInt i).toNatClampNeg < cell.slots.size := Nat.not_le.mp fun q => q4 (Or.inr q)
  refine W.aast (a := adr g n) hx hb q1 (isA hW q2).1 q3 f3 f4 rfl hkE ⟨fun q => q4 (Or.inl q), hlt⟩ g1 (fun q h => by rw [h] at g2; cases g2) hkC e3 rfl rfl hd fun H' e1' e2' e3' => ?_
  refine kk ls H' _ hl (hR.put hG (a := n) (by omega) e2' e3' (fun b hb => ?_) (hO.put (by omega) ha q1 h0 h1 q5 e1')) (fun q hq' => ?_)
  · funext j
    unfold set2
    rw [if_neg (fun h => hb h.1)]
  · rcases List.mem_append.mp hq' with h | h
    · exact hq q h
    · rw [List.mem_singleton.mp h]
      exact adr_base (by omega)
/-- two references side by side -/
def rfO (g : GP) : Int → Option Nat
  | .ofNat x => some (adr g x)
  | .negSucc _ => none
theorem rfO_c (g : GP) (a : Int) : cR g a = va_rf (rfO g a) := by cases a <;> rfl
theorem rfO_inj {g : GP} (hG : GH g) {a b : Int} (ha : -1 ≤ a) (hb : -1 ≤ b) (h12 : ∀ x y : Nat, a = x → b = y → x < 3 → y < 3 → adr g x = adr g y → x = y) : rfO g a = rfO g b ↔ a = b := by
  refine ⟨fun h => ?_, fun h => by rw [h]⟩
  match a, b, h with
  | .ofNat x, .ofNat y, h =>
    have h1 : adr g x = adr g y := Option.some.inj h
    by_cases e : x = y
    · rw [e]
    · exfalso
      rcases Nat.lt_or_ge x 3 with q | q
      · rcases Nat.lt_or_ge y 3 with q' | q'
        · exact e (h12 x y rfl rfl q q' h1)
        · exact adr_ne hG q' e h1
      · exact adr_ne hG q (fun h => e h.symm) h1.symm
  | .ofNat x, .negSucc y, h => exact absurd h (by intro q; cases q)
  | .negSucc x, .ofNat y, h => exact absurd h (by intro q; cases q)
  | .negSucc x, .negSucc y, h => omega
theorem jacmp_eq (hF : FX z l g nL cc own R) {a b off : Int} (tgt : Nat) (hd : decode cc pc = .ok (.if_acmp .eq off, 3)) (ht : (pc : Int) + off = (tgt : Int)) (ha : 3 ≤ a ∨ a = 1) (hb : b = 1) (kt : a = b → J z g nL cells slots Q tgt lo rest kd ln mem sz) (kf : ¬ a = b → J z g nL cells slots Q (pc + 3) lo rest kd ln mem sz) : J z g nL cells slots Q pc lo ((2, b) :: (2, a) :: rest) kd ln mem sz := by
  obtain ⟨p, l', e, R', s, m, args, below, meth, cd⟩ := z
  obtain ⟨hx, hb', hml, hown, hW, hG, -⟩ := hF
  intro ls H locs hls hR hq
  have e3 := rfO_inj (a := a) (b := b) hG (by omega) (by omega) (fun x y h1 h2 h3 h4 _ => by omega)
  have e4 : ((2, b) :: (2, a) :: rest).map (cv g) = va_rf (rfO g b) :: va_rf (rfO g a) :: rest.map (cv g) := by rw [← rfO_c, ← rfO_c]; rfl
  rw [e4]
  exact lv_acmp_eq hx hb' hd ht (fun h => kt (e3.mp h) ls H locs hls hR hq) (fun h => kf (fun q => h (e3.mpr q)) ls H locs hls hR hq)
theorem jdupx1 (hF : FX z l g nL cc own R) {va vb : AV} (h1 : ¬ va.1 = 1) (h2 : ¬ vb.1 = 1) (hd : decode cc pc = .ok (.dup_x1, 1)) (kk : J z g nL cells slots Q (pc + 1) lo (va :: vb :: va :: rest) kd ln mem sz) : J z g nL cells slots Q pc lo (va :: vb :: rest) kd ln mem sz := by
  obtain ⟨p, l', e, R', s, m, args, below, meth, cd⟩ := z
  obtain ⟨hx, hb', hml, hown, hW, hG, -⟩ := hF
  intro ls H locs hls hR hq
  exact lv_dup_x1 hx hb' hd (av_c1 h1) (av_c1 h2) (kk ls H locs hls hR hq)
theorem jcast (hF : FX z l g nL cc own R) {a : Int} (c : Nat) (hc : c < 14) {index : Nat} (hl : Cond.classLink own index (cRec c).1 ∈ lw_tbl) (hd : decode cc pc = .ok (.checkcast index, 3)) (ha : kd a = c + 1) (kk : J z g nL cells slots Q (pc + 3) lo ((2, a) :: rest) kd ln mem sz) : J z g nL cells slots Q pc lo ((2, a) :: rest) kd ln mem sz := by
  obtain ⟨p, l', e, R', s, m, args, below, meth, cd⟩ := z
  obtain ⟨hx, hb', hml, hown, hW, hG, -⟩ := hF
  intro ls H locs hls hR hq
  obtain ⟨w, rfl, hcell⟩ := recvOK (s := s) hG hW hR hc ha
  obtain ⟨c1, c2, c3, c4⟩ := CK_all c hc
  exact va_castS hx hb' hown (hts_at hG hW hl rfl) (u_Kn_moved hW.alike (hG.2.1 c _ c1)).2 hcell hd (kk ls H locs hls hR hq)
theorem janew (hF : FX z l g nL cc own R) {n : Int} {index : Nat} (hl : Cond.classLink own index "java/lang/Object" ∈ lw_tbl) (hao : Cond.arrayOver (.object "java/lang/Object") ∈ lw_tbl) (hd : decode cc pc = .ok (.anewarray index, 3)) (h0 : 0 ≤ n) (h1 : n ≤ 65536) (hcs : cells + 1 ≤ R.cells ∧ slots + n.toNat ≤ R.slots)
    (kk : J z g nL (cells + 1) (slots + n.toNat) Q (pc + 3) lo ((2, (sz : Int)) :: rest) (upK kd sz 23) (upL ln sz n) (newA (-1) mem sz) (sz + 1)) : J z g nL cells slots Q pc lo ((0, n) :: rest) kd ln mem sz := by
  obtain ⟨p, l', e, R', s, m, args, below, meth, cd⟩ := z
  obtain ⟨hx, hb, hml, hown, hW, hG, hlk, rfl, rfl⟩ := hF
  intro ls H locs hls hR hq
  have hI : InI n := ⟨by omega, by omega⟩
  have hN : (Int32.ofInt n).toNatClampNeg = n.toNat := by
    show (Int32.ofInt n).toInt.toNat = _
    rw [I_toInt hI]
  refine W.anew hx hb hown (hts_at hG hW hl rfl) (va_AO.use (va_AO.moved hW.alike (va_AO.of (hG.1 _ hao)))) rfl hd rfl (fun h => by have := (I_lt hI InI_0).mp h; omega) (by rw [hN]; omega) hcs.1 (by rw [hN]; exact hcs.2) fun cA kA comp f1 f2 f3 f4 => ?_
  rw [hN]
  generalize hH1 : H.push ({ cls := cA, slots := Array.replicate n.toNat .null, vm := .none } : Cell) = H1
  have z1 : H1.size = H.size + 1 := by rw [← hH1, Array.size_push]
  have e1 : H1[H.size]? = some (arrV cA n.toNat (fun _ => .null)) := by rw [← hH1, Array.getElem?_push_size, ← arrV_new]
  have o1 : ∀ q : Nat, q < H.size → H1[q]? = H[q]? := fun q hq => by rw [← hH1, Array.getElem?_push_lt hq, Array.getElem?_eq_getElem hq]
  have ha : adr g sz = H.size := by rw [adr_hi hR.1]; have := hR.2.1; have := hR.1; omega
  have hk1 := kk ls H1 locs hls (hR.push hG z1 o1 (fun b hb => if_neg hb) (fun b hb => if_neg hb) (fun b hb => by funext j; exact if_neg hb) (fun _ => ⟨fun c' h1 h2 => ?_, fun k' h1 h2 => ?_⟩)) hq
  · have e2 : ((2, (sz : Int)) :: rest).map (cv g) = .ref H.size :: rest.map (cv g) := by
      rw [List.map_cons]
      show Value.ref (adr g sz) :: _ = _
      rw [ha]
    rw [e2] at hk1
    exact hk1
  · unfold upK at h1
    rw [if_pos rfl] at h1
    omega
  · unfold upK at h1
    rw [if_pos rfl] at h1
    have hkk : k' = 3 := by omega
    subst hkk
    have e2 : H1[adr g sz]? = some (arrV cA n.toNat (fun _ => Value.null)) := by rw [ha]; exact e1
    have f1' : (gs g).vm.findClass "[Ljava/lang/Object;" = some cA := by
      rw [← hW.alike.findClass]
      exact f1
    obtain ⟨comp2, cA2, kA2, p1, -, p3, p4, p5⟩ := Cond.arrayOver_spec (va_AO.use (A := args) (va_AO.of (hG.1 _ hao)))
    have hcc : cA2 = cA := Option.some.inj ((show (gs g).vm.findClass "[Ljava/lang/Object;" = some cA2 from p5).symm.trans f1')
    rw [hcc] at p3
    refine ⟨arrV cA n.toNat (fun _ => Value.null), e2, ⟨⟨fun k h => (by cases h), ?_⟩, fun _ => f1'⟩, fun q => (by cases q), ?_, ?_, fun j hj => ?_⟩
    · exact ⟨kA2, p3, comp2, p4⟩
    · rw [arrV_size]
      unfold upL
      rw [if_pos rfl]
      omega
    · rw [arrV_size]
      omega
    rw [arrV_size] at hj
    rw [arrV_read _ _ hj]
    show _ = some (cv g (atg 3, newA (-1) mem sz sz j))
    unfold newA
    rw [if_pos rfl]
    rfl
end JREF
