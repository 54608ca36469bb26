section COPY
def cpyM (mem : Int → Int → Int) (x y sp dp n : Int) : Int → Int → Int := fun b j => if b = y ∧ dp ≤ j ∧ j < dp + n then mem x (sp + (j - dp)) else mem b j
theorem ofI_clamp {i : Int} (h0 : 0 ≤ i) (h1 : i < 2147483648) : (Int32.ofInt i).toNatClampNeg = i.toNat ∧ ¬ Int32.ofInt i < 0 ∧ (Int32.ofInt i).toInt = i := by
  have hI : InI i := ⟨by omega, by omega⟩
  have e := I_toInt hI
  refine ⟨?_, fun h => ?_, e⟩
  · show (Int32.ofInt i).toInt.toNat = _
    rw [e]
  · have := (I_lt hI InI_0).mp h
    omega
theorem copied_cell {g : GP} {kd : Int → Nat} {ln : Int → Int} {mem : Int → Int → Int} {H H' : Heap} {x y k : Nat} (hk : k < 4) (hx : kd x = k + 20) (hy : kd y = k + 20) {cs cd : Cell} (ox : arrOK g k (ln x) (mem x) (adr g x) H) (oy : arrOK g k (ln y) (mem y) (adr g y) H) (qx : H[adr g x]? = some cs) (qy : H[adr g y]? = some cd) {sp dp n : Int} (h1 : 0 ≤ sp) (h2 : 0 ≤ dp) (h3 : 0 ≤ n) (h4 : sp + n ≤ ln x) (h5 : dp + n ≤ ln y) (e : H'[adr g y]? = some (copied cs cd (Int32.ofInt sp) (Int32.ofInt dp) (Int32.ofInt n))) : cellOK g kd ln (cpyM mem x y sp dp n) H' y := by
  obtain ⟨cs', a1, a2, a3, a4, a5, a6⟩ := ox
  cases qx.symm.trans a1
  obtain ⟨cd', b1, b2, b3, b4, b5, b6⟩ := oy
  cases qy.symm.trans b1
  refine ⟨fun c p1 p2 => by omega, fun k' p1 p2 => ?_⟩
  have hkk : k' = k := by omega
  subst hkk
  obtain ⟨f1, f2, f3, -⟩ := Cell.storeRun_facts cd (Int32.ofInt dp).toNatClampNeg (cs.stretch (Int32.ofInt sp).toNatClampNeg (Int32.ofInt n).toNatClampNeg)
  have c1 := (ofI_clamp h1 (by omega : sp < 2147483648)).1
  have c2 := (ofI_clamp h2 (by omega : dp < 2147483648)).1
  have c3 := (ofI_clamp h3 (by omega : n < 2147483648)).1
  refine ⟨_, e, ⟨⟨fun q => ?_, ?_⟩, fun q => ?_⟩, fun q => b3 (by rw [← f2]; exact q), by rw [show (copied cs cd _ _ _).slots.size = cd.slots.size from f3]; exact b4, by rw [show (copied cs cd _ _ _).slots.size = cd.slots.size from f3]; exact b5, fun j hj => ?_⟩
  · intro h
    exact b2.1.1 q (by rw [← f2]; exact h)
  · rw [show (copied cs cd _ _ _).cls = cd.cls from f1]
    exact b2.1.2
  · rw [show (copied cs cd _ _ _).cls = cd.cls from f1]
    exact b2.2 q
  · rw [show (copied cs cd _ _ _).slots.size = cd.slots.size from f3] at hj
    rw [show (copied cs cd (Int32.ofInt sp) (Int32.ofInt dp) (Int32.ofInt n)).slots[j]? = _ from Cell.storeRun_get cd _ _ j (by rw [Cell.stretch_length, c2, c3]; omega), Cell.stretch_length, c1, c2, c3]
    unfold cpyM
    by_cases q : dp.toNat ≤ j ∧ j < dp.toNat + n.toNat
    · rw [if_pos q, if_pos ⟨rfl, by omega, by omega⟩]
      have hlt : j - dp.toNat < n.toNat := by omega
      have hs : sp.toNat + (j - dp.toNat) < cs.slots.size := by omega
      unfold Cell.stretch
      rw [List.getElem?_map, List.getElem?_range hlt, Option.map_some, Array.getD_eq_getD_getElem?, a6 _ hs]
      show some (cv g (atg k', mem x ((sp.toNat + (j - dp.toNat) : Nat) : Int))) = _
      rw [show ((sp.toNat + (j - dp.toNat) : Nat) : Int) = sp + ((j : Int) - dp) by omega]
    · rw [if_neg q, if_neg (fun h => q (by omega))]
      exact b6 j hj
section CP
variable {z : ZT} {l : Launch} {g : GP} {nL : Nat} {cells slots : Nat} {Q : State → Prop} {pc : Nat} {lo : List (Nat × AV)} {st rest : List AV} {kd : Int → Nat} {ln : Int → Int} {mem : Int → Int → Int} {sz : Nat} {cc : ByteArray} {own : String} {R : Room}
theorem jcopy (hF : FX z l g nL cc own R) {x y sp dp n : Int} (k : Nat) (hk : k = 0 ∨ k = 1 ∨ k = 3) {index : Nat} (hl : Cond.methodLink own index arraycopyName ∈ lw_tbl) (hnat : Cond.native arraycopyName ∈ lw_tbl) (hstat : Cond.static arraycopyName ∈ lw_tbl) (hini : Cond.initialized "java/lang/System" ∈ lw_tbl) (hao : k = 3 → Cond.arrayOver (.object "java/lang/Object") ∈ lw_tbl) (hx : kd x = k + 20) (hy : kd y = k + 20) (hy3 : 3 ≤ y) (h1 : 0 ≤ sp) (h2 : 0 ≤ dp) (h3 : 0 ≤ n) (h4 : sp + n ≤ ln x) (h5 : dp + n ≤ ln y)
    (hel : k = 3 → ∀ j : Int, 0 ≤ j → j < n → ∃ c : Nat, c < 14 ∧ kd (mem x (sp + j)) = c + 1 ∧ Cond.castable (cRec c).1 "java/lang/Object" ∈ lw_tbl) (hd : decode cc pc = .ok (.invokestatic index, 3)) (hroom : 1 ≤ R.frames ∧ asz rest + 40 ≤ R.locals)
    (kk : J z g nL cells slots Q (pc + 3) lo rest kd ln (cpyM mem x y sp dp n) sz) : J z g nL cells slots Q pc lo ((0, n) :: (0, dp) :: (2, y) :: (0, sp) :: (2, x) :: rest) kd ln mem sz := by
  obtain ⟨p, l', e, R', s, m, args, below, meth, cd⟩ := z
  obtain ⟨hxx, hb, hml, hown, hW, hG, hlk, rfl, rfl⟩ := hF
  intro ls H locs hls hR hq T hT X
  obtain ⟨a0, a1⟩ := hR.2.2.2.2.1 x (by rw [hx]; omega)
  obtain ⟨x, rfl⟩ := Int.eq_ofNat_of_zero_le a0
  obtain ⟨b0, b1⟩ := hR.2.2.2.2.1 y (by rw [hy]; omega)
  obtain ⟨y, rfl⟩ := Int.eq_ofNat_of_zero_le b0
  have ox := (hR.2.2.2.1 x (by omega)).2 k hx (by omega)
  have oy := (hR.2.2.2.1 y (by omega)).2 k hy (by omega)
  obtain ⟨cs, q1, q2, q3, q4, q5, q6⟩ := id ox
  obtain ⟨cd0, r1, r2, r3, r4, r5, r6⟩ := id oy
  obtain ⟨g1, kS, hkS, cS, hkS2⟩ := isA hW q2
  obtain ⟨g2, kD, hkD, cD, hkD2⟩ := isA hW r2
  obtain ⟨c1, c1', c1''⟩ := ofI_clamp h1 (by omega : sp < 2147483648)
  obtain ⟨c2, c2', c2''⟩ := ofI_clamp h2 (by omega : dp < 2147483648)
  obtain ⟨c3, c3', c3''⟩ := ofI_clamp h3 (by omega : n < 2147483648)
  have hval : ∀ i : Nat, i < n.toNat → cs.slots.getD (sp.toNat + i) .null = cv g (atg k, mem x (sp + (i : Int))) := fun i hi => by
    have hs : sp.toNat + i < cs.slots.size := by omega
    rw [Array.getD_eq_getD_getElem?, q6 _ hs]
    show cv g (atg k, mem x ((sp.toNat + i : Nat) : Int)) = _
    rw [show ((sp.toNat + i : Nat) : Int) = sp + (i : Int) by omega]
  obtain ⟨vm', X', step⟩ := X.arraycopy hxx hown (hts_at hG hW hl rfl) (hts_at hG hW hnat rfl) (hts_at hG hW hstat rfl) (hts_at hG hW hini rfl) (src := adr g x) (dst := adr g y) (cs := cs) (cd := cd0) (srcPos := Int32.ofInt sp) (destPos := Int32.ofInt dp) (n := Int32.ofInt n) (by rw [hT]; exact q1) (by rw [hT]; exact r1)
    g1 g2 q3 r3 hkS hkD hkS2 hkD2 (by rcases hk with rfl | rfl | rfl <;> rfl) c1' c2' c3'
    (by rw [c1'', c3'']; omega) (by rw [c2'', c3'']; omega)
    (fun vm₁ hal i hi => by
      rw [c3] at hi
      rw [c1, hval i hi]
      rcases hk with rfl | rfl | rfl
      · exact ⟨rfl, trivial⟩
      · exact ⟨rfl, trivial⟩
      · obtain ⟨c, hc, hkc, hca⟩ := hel rfl (i : Int) (by omega) (by omega)
        obtain ⟨w, hw, cellV, v1, v2, v3⟩ := recvOK (s := s) hG hW hR hc hkc
        obtain ⟨comp, cA, kA, f1, -, f3, f4, f5⟩ := Cond.arrayOver_spec (va_AO.use (A := args) (va_AO.moved hW.alike (va_AO.of (hG.1 _ (hao rfl)))))
        obtain ⟨c0, t1, e1, e2, e3⟩ := Cond.castable_spec (va_Nw.use (A := args) rfl (va_Nw.warmC hW (va_Nw.of rfl (hG.1 _ hca))))
        have hcA : cA = cd0.cls := by
          have h9 := r2.2 rfl
          rw [← hW.alike.findClass] at h9
          exact Option.some.inj ((show s.vm.findClass "[Ljava/lang/Object;" = some cA from f5).symm.trans h9)
        subst hcA
        cases hkD.symm.trans f3
        cases hkD2.symm.trans f4
        cases f1.symm.trans e2
        cases v3.symm.trans e1
        obtain ⟨kE, hkE, -⟩ := Vm.findClass_spec f1
        obtain ⟨kC, hkC, -⟩ := Vm.findClass_spec v3
        obtain ⟨kC', hkC', -⟩ := hal.2.2 _ _ hkC
        obtain ⟨kE', hkE', -⟩ := hal.2.2 _ _ hkE
        rw [hw]
        refine ⟨rfl, cellV, (show T.heap[adr g w]? = some cellV by rw [hT]; exact v1), (fun q h => by rw [h] at v2; cases v2), ⟨kC', hkC'⟩, ⟨kE', hkE'⟩, ?_⟩
        show vm₁.assignable _ _ = true
        rw [hal.assignable]
        exact e3)
    (g := F0 m pc ls (((0, n) :: (0, dp) :: (2, (y : Int)) :: (0, sp) :: (2, (x : Int)) :: rest).map (cv g))) rfl (by show ls.size = _; rw [hml]; exact hls.1) (rest := rest.map (cv g)) rfl (by rw [hb]; exact hd) hroom.1 (by
      rw [asz_w]
      have hw : nativeFrameWords "java/lang/System" "arraycopy" 5 + 11 ≤ 40 := by decide
      show 2 * 0 + _ + _ ≤ _
      omega)
  have hl0 : adr g y < H.size := (Array.getElem?_eq_some_iff.mp r1).1
  have hheap : ((T.setVm vm').setCell (adr g y) (copied cs cd0 (Int32.ofInt sp) (Int32.ofInt dp) (Int32.ofInt n))).heap = H.setIfInBounds (adr g y) (copied cs cd0 (Int32.ofInt sp) (Int32.ofInt dp) (Int32.ofInt n)) := by rw [← hT]; rfl
  have oq : ∀ q : Nat, q ≠ adr g y → (H.setIfInBounds (adr g y) (copied cs cd0 (Int32.ofInt sp) (Int32.ofInt dp) (Int32.ofInt n)))[q]? = H[q]? := fun q hq => by simp [Array.getElem?_setIfInBounds, Ne.symm hq]
  have e1 : (H.setIfInBounds (adr g y) (copied cs cd0 (Int32.ofInt sp) (Int32.ofInt dp) (Int32.ofInt n)))[adr g y]? = some (copied cs cd0 (Int32.ofInt sp) (Int32.ofInt dp) (Int32.ofInt n)) := by simp [Array.getElem?_setIfInBounds, hl0]
  obtain ⟨t, p1, p2⟩ := kk ls _ _ hls (hR.put (mem' := cpyM mem x y sp dp n) hG (a := y) (by omega) (by simp) oq (fun b hb => by funext j; exact if_neg (fun q => hb q.1)) (copied_cell (by omega) hx hy ox oy q1 r1 h1 h2 h3 h4 h5 e1)) (fun q hq' => (List.mem_append.mp hq').elim (hq q) (fun h => by
    obtain ⟨w, -, hw⟩ := List.mem_map.mp h
    rw [← hw]
    exact adr_base (by omega))) _ hheap X'
  exact ⟨t, step t p1, p2⟩
end CP
end COPY
