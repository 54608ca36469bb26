section START
/-! the law's entry -/
theorem okT_13 : okT 13 := by
  intro k hk
  match k, hk with
  | 0, _ => exact Or.inl rfl
  | 1, _ => exact Or.inl rfl
  | 2, _ => exact Or.inl rfl
  | 3, _ => exact Or.inr (Or.inr (Or.inr (Or.inr ⟨_, rfl⟩)))
  | 4, _ => exact Or.inr (Or.inr (Or.inr (Or.inr ⟨_, rfl⟩)))
  | 5, _ => exact Or.inr (Or.inr (Or.inr (Or.inr ⟨_, rfl⟩)))
  | 6, _ => exact Or.inl rfl
  | 7, _ => exact Or.inr (Or.inr (Or.inr (Or.inr ⟨_, rfl⟩)))
  | 8, _ => exact Or.inr (Or.inr (Or.inr (Or.inr ⟨_, rfl⟩)))
  | 9, _ => exact Or.inr (Or.inr (Or.inr (Or.inr ⟨_, rfl⟩)))
  | 10, _ => exact Or.inr (Or.inr (Or.inr (Or.inr ⟨_, rfl⟩)))
  | 11, _ => exact Or.inl rfl
  | 12, _ => exact Or.inl rfl
  | 13, _ => exact Or.inl rfl
  | 14, _ => exact Or.inl rfl
  | 15, _ => exact Or.inl rfl
  | 16, _ => exact Or.inl rfl
  | 17, _ => exact Or.inr (Or.inr (Or.inr (Or.inr ⟨_, rfl⟩)))
  | 18, _ => exact Or.inr (Or.inr (Or.inr (Or.inr ⟨_, rfl⟩)))
  | 19, _ => exact Or.inl rfl
  | 20, _ => exact Or.inr (Or.inr (Or.inr (Or.inr ⟨_, rfl⟩)))
  | 21, _ => exact Or.inr (Or.inr (Or.inr (Or.inr ⟨_, rfl⟩)))
  | 22, _ => exact Or.inr (Or.inr (Or.inr (Or.inr ⟨_, rfl⟩)))
  | 23, _ => exact Or.inr (Or.inr (Or.inr (Or.inr ⟨_, rfl⟩)))
  | 24, _ => exact Or.inr (Or.inr (Or.inr (Or.inr ⟨_, rfl⟩)))
  | 25, _ => exact Or.inr (Or.inr (Or.inr (Or.inr ⟨_, rfl⟩)))
  | 26, _ => exact Or.inr (Or.inr (Or.inr (Or.inr ⟨_, rfl⟩)))
  | 27, _ => exact Or.inr (Or.inr (Or.inr (Or.inr ⟨_, rfl⟩)))
  | 28, _ => exact Or.inr (Or.inr (Or.inr (Or.inr ⟨_, rfl⟩)))
  | 29, _ => exact Or.inr (Or.inr (Or.inr (Or.inr ⟨_, rfl⟩)))
  | 30, _ => exact Or.inr (Or.inr (Or.inr (Or.inr ⟨_, rfl⟩)))
  | 31, _ => exact Or.inr (Or.inr (Or.inr (Or.inr ⟨_, rfl⟩)))
  | 32, _ => exact Or.inr (Or.inr (Or.inr (Or.inr ⟨_, rfl⟩)))
  | 33, _ => exact Or.inl rfl
  | 34, _ => exact Or.inr (Or.inr (Or.inr (Or.inr ⟨_, rfl⟩)))
  | 35, _ => exact Or.inr (Or.inr (Or.inr (Or.inr ⟨_, rfl⟩)))
  | 36, _ => exact Or.inr (Or.inr (Or.inr (Or.inr ⟨_, rfl⟩)))
  | 37, _ => exact Or.inr (Or.inr (Or.inr (Or.inr ⟨_, rfl⟩)))
  | 38, _ => exact Or.inr (Or.inr (Or.inr (Or.inr ⟨_, rfl⟩)))
  | 39, _ => exact Or.inr (Or.inr (Or.inr (Or.inr ⟨_, rfl⟩)))
  | 40, _ => exact Or.inr (Or.inr (Or.inr (Or.inr ⟨_, rfl⟩)))
  | 41, _ => exact Or.inr (Or.inr (Or.inr (Or.inr ⟨_, rfl⟩)))
  | 42, _ => exact Or.inr (Or.inr (Or.inr (Or.inr ⟨_, rfl⟩)))
  | 43, _ => exact Or.inr (Or.inr (Or.inr (Or.inr ⟨_, rfl⟩)))
  | 44, _ => exact Or.inr (Or.inr (Or.inr (Or.inr ⟨_, rfl⟩)))
  | 45, _ => exact Or.inl rfl
  | 46, _ => exact Or.inl rfl
  | 47, _ => exact Or.inr (Or.inr (Or.inr (Or.inr ⟨_, rfl⟩)))
  | 48, _ => exact Or.inr (Or.inr (Or.inr (Or.inr ⟨_, rfl⟩)))
  | 49, _ => exact Or.inr (Or.inr (Or.inr (Or.inr ⟨_, rfl⟩)))
  | 50, _ => exact Or.inr (Or.inr (Or.inr (Or.inr ⟨_, rfl⟩)))
  | 51, _ => exact Or.inr (Or.inr (Or.inr (Or.inr ⟨_, rfl⟩)))
  | 52, _ => exact Or.inr (Or.inr (Or.inr (Or.inr ⟨_, rfl⟩)))
  | 53, _ => exact Or.inr (Or.inr (Or.inr (Or.inr ⟨_, rfl⟩)))
  | 54, _ => exact Or.inr (Or.inr (Or.inr (Or.inr ⟨_, rfl⟩)))
  | 55, _ => exact Or.inl rfl
  | 56, _ => exact Or.inl rfl
  | 57, _ => exact Or.inl rfl
  | 58, _ => exact Or.inl rfl
  | 59, _ => exact Or.inl rfl
  | 60, _ => exact Or.inr (Or.inr (Or.inr (Or.inr ⟨_, rfl⟩)))
  | 61, _ => exact Or.inr (Or.inr (Or.inr (Or.inr ⟨_, rfl⟩)))
  | 62, _ => exact Or.inr (Or.inr (Or.inr (Or.inr ⟨_, rfl⟩)))
  | 63, _ => exact Or.inr (Or.inr (Or.inr (Or.inr ⟨_, rfl⟩)))
  | 64, _ => exact Or.inr (Or.inr (Or.inr (Or.inr ⟨_, rfl⟩)))
  | 65, _ => exact Or.inl rfl
  | 66, _ => exact Or.inr (Or.inr (Or.inr (Or.inr ⟨_, rfl⟩)))
  | 67, _ => exact Or.inr (Or.inr (Or.inr (Or.inr ⟨_, rfl⟩)))
  | 68, _ => exact Or.inr (Or.inr (Or.inr (Or.inr ⟨_, rfl⟩)))
  | 69, _ => exact Or.inr (Or.inr (Or.inr (Or.inr ⟨_, rfl⟩)))
  | 70, _ => exact Or.inr (Or.inr (Or.inr (Or.inr ⟨_, rfl⟩)))
  | 71, _ => exact Or.inr (Or.inr (Or.inr (Or.inr ⟨_, rfl⟩)))
  | 72, _ => exact Or.inl rfl
  | 73, _ => exact Or.inr (Or.inr (Or.inr (Or.inr ⟨_, rfl⟩)))
  | 74, _ => exact Or.inr (Or.inr (Or.inr (Or.inr ⟨_, rfl⟩)))
  | 75, _ => exact Or.inr (Or.inr (Or.inr (Or.inr ⟨_, rfl⟩)))
  | 76, _ => exact Or.inr (Or.inr (Or.inr (Or.inr ⟨_, rfl⟩)))
  | 77, _ => exact Or.inr (Or.inr (Or.inr (Or.inr ⟨_, rfl⟩)))
  | 78, _ => exact Or.inr (Or.inr (Or.inr (Or.inr ⟨_, rfl⟩)))
  | 79, _ => exact Or.inl rfl
  | 80, _ => exact Or.inl rfl
  | 81, _ => exact Or.inr (Or.inr (Or.inr (Or.inr ⟨_, rfl⟩)))
  | 82, _ => exact Or.inr (Or.inr (Or.inr (Or.inr ⟨_, rfl⟩)))
  | 83, _ => exact Or.inr (Or.inr (Or.inr (Or.inr ⟨_, rfl⟩)))
  | 84, _ => exact Or.inl rfl
  | 85, _ => exact Or.inr (Or.inr (Or.inr (Or.inr ⟨_, rfl⟩)))
  | 86, _ => exact Or.inr (Or.inr (Or.inr (Or.inr ⟨_, rfl⟩)))
  | 87, _ => exact Or.inr (Or.inr (Or.inr (Or.inr ⟨_, rfl⟩)))
  | 88, _ => exact Or.inl rfl
  | 89, _ => exact Or.inl rfl
  | k + 90, h => exact absurd h (by have : (cRec 13).2.2 = 90 := rfl; omega)
theorem len_sp {args : Array Value} {s : State} {t : Term} {v : Value} (h : (Term.length t).eval args s none [] s = some v) : ∃ a cell, t.eval args s none [] s = some (.ref a) ∧ s.arrayAt? a = some cell ∧ v = .int cell.slots.size.toInt32 ∧ cell.slots.size < 2147483648 := by
  simp only [Term.eval, Option.bind_eq_bind] at h
  cases ht : t.eval args s none [] s with
  | none => simp [ht] at h
  | some x =>
    cases x <;> simp [ht] at h
    case ref a =>
      obtain ⟨cell, hcell, h⟩ := Option.bind_eq_some_iff.mp h
      by_cases hn : cell.slots.size < 2147483648
      · rw [if_pos hn] at h; cases h; exact ⟨a, cell, rfl, hcell, rfl, hn⟩
      · rw [if_neg hn] at h; cases h
theorem stat_arr {args : Array Value} {s : State} {tm : Term} {ty : FieldType} {N : Nat} (hN : N < 2147483648) (harr : (Cond.arrayOf tm ty).before args s = true) (hlen : (Cond.eq (.length tm) (.int (Int32.ofNat N))).before args s = true) : ∃ (a : Nat) (cell : Cell), tm.eval args s none [] s = some (.ref a) ∧ s.arrayAt? a = some cell ∧ s.heap[a]? = some cell ∧ s.isArrayOf cell ty ∧ cell.vm ≠ .unknown ∧ cell.slots.size = N := by
  obtain ⟨a, cell, ht, hat, hv, hs⟩ := len_sp (va_eqt hlen)
  obtain ⟨hcell, hkn, -, -⟩ := State.arrayAt?_spec hat
  obtain ⟨hof, -⟩ := Cond.arrayOf_spec harr ht hcell
  have e : Int32.ofNat N = Int32.ofNat cell.slots.size := Value.int.inj hv
  have e2 := congrArg Int32.toInt e
  rw [Int32.toInt_ofNat_of_lt hN, Int32.toInt_ofNat_of_lt hs] at e2
  exact ⟨a, cell, ht, hat, hcell, hof, hkn, by omega⟩
def kd0 : Int → Nat := fun a => if a = 0 then 21 else if a = 1 then 23 else if a = 2 then 20 else 0
def ln0 (L : Int) : Int → Int := fun a => if a = 0 then 13 else if a = 1 then 0 else L
def mem0 (S : Int → Int) : Int → Int → Int := fun a j => if a = 0 then 10 ^ j.toNat else S j
set_option maxRecDepth 100000 in
theorem inst_ok : ∀ c, c < 14 → ∃ n : Nat, Cond.instantiable (cRec c).1 n ∈ lw_tbl := by
  intro c hc
  match c, hc with
  | 0, _ => exact ⟨_, wd_301⟩
  | 1, _ => exact ⟨_, wd_415⟩
  | 2, _ => exact ⟨_, wd_1184⟩
  | 3, _ => exact ⟨_, wd_193⟩
  | 4, _ => exact ⟨_, wd_689⟩
  | 5, _ => exact ⟨_, wd_257⟩
  | 6, _ => exact ⟨_, wd_159⟩
  | 7, _ => exact ⟨_, wd_212⟩
  | 8, _ => exact ⟨_, wd_1236⟩
  | 9, _ => exact ⟨_, wd_896⟩
  | 10, _ => exact ⟨_, wd_1165⟩
  | 11, _ => exact ⟨_, wd_139⟩
  | 12, _ => exact ⟨_, wd_128⟩
  | 13, _ => exact ⟨_, wd_1458⟩
theorem cls_ok {s : State} {args : Array Value} (hts : ∀ w ∈ lw_tbl, w.before args s = true) : ∃ D : va_G, ∀ (c : Nat) (q : vw_C), vwCl[c]? = some q → u_Kn s q.1 q.2.1 q.2.2 (D.1 c) (D.2 c) := by
  have hK : ∀ c : Nat, ∃ (cC : ClassId) (iS : Nat → Nat), c < 14 → u_Kn s (cRec c).1 (cRec c).2.1 (cRec c).2.2 cC iS := fun c => by
    by_cases h : c < 14
    · obtain ⟨n, hn⟩ := inst_ok c h
      obtain ⟨cC, iS, hq⟩ := u_known hts (CK_all c h).2.1 (hts _ hn)
      exact ⟨cC, iS, fun _ => hq⟩
    · exact ⟨0, fun _ => 0, fun q => absurd q h⟩
  refine ⟨(fun c => Classical.choose (hK c), fun c => Classical.choose (Classical.choose_spec (hK c))), fun c q h => ?_⟩
  have hc : c < 14 := (List.getElem?_eq_some_iff.mp h).1
  have e : q = cRec c := Option.some.inj (h.symm.trans (CK_all c hc).1)
  rw [e]
  exact Classical.choose_spec (Classical.choose_spec (hK c)) hc
set_option maxRecDepth 100000 in
theorem ten_ok {args : Array Value} {s : State} {cell : Cell} {a : Nat} (hgv : (Jvm.Cond.and given_1 narrow_1).before args s = true) (ht : (Term.static "FigureHouse" "TENS" "[J").eval args s none [] s = some (.ref a)) (hat : s.arrayAt? a = some cell) : ∀ j : Nat, j < 13 → cell.slots[j]? = some (.long (Int64.ofInt (10 ^ j))) := by
  have hfl := flat_of_before _ hgv
  have hel : ∀ j : Nat, j < 13 → (Term.elem (.static "FigureHouse" "TENS" "[J") (.int (Int32.ofNat j))).eval args s none [] s = some (.long (Int64.ofInt (10 ^ j))) := by
    intro j hj
    match j, hj with
    | 0, _ => exact (va_eqtl (z := 1) (hfl (Cond.eq (.elem (.static "FigureHouse" "TENS" "[J") (.int 0)) (.long 1)) (by decide +kernel))).trans (congrArg (fun z => some (Value.long z)) (by decide +kernel))
    | 1, _ => exact (va_eqtl (z := 10) (hfl (Cond.eq (.elem (.static "FigureHouse" "TENS" "[J") (.int 1)) (.long 10)) (by decide +kernel))).trans (congrArg (fun z => some (Value.long z)) (by decide +kernel))
    | 2, _ => exact (va_eqtl (z := 100) (hfl (Cond.eq (.elem (.static "FigureHouse" "TENS" "[J") (.int 2)) (.long 100)) (by decide +kernel))).trans (congrArg (fun z => some (Value.long z)) (by decide +kernel))
    | 3, _ => exact (va_eqtl (z := 1000) (hfl (Cond.eq (.elem (.static "FigureHouse" "TENS" "[J") (.int 3)) (.long 1000)) (by decide +kernel))).trans (congrArg (fun z => some (Value.long z)) (by decide +kernel))
    | 4, _ => exact (va_eqtl (z := 10000) (hfl (Cond.eq (.elem (.static "FigureHouse" "TENS" "[J") (.int 4)) (.long 10000)) (by decide +kernel))).trans (congrArg (fun z => some (Value.long z)) (by decide +kernel))
    | 5, _ => exact (va_eqtl (z := 100000) (hfl (Cond.eq (.elem (.static "FigureHouse" "TENS" "[J") (.int 5)) (.long 100000)) (by decide +kernel))).trans (congrArg (fun z => some (Value.long z)) (by decide +kernel))
    | 6, _ => exact (va_eqtl (z := 1000000) (hfl (Cond.eq (.elem (.static "FigureHouse" "TENS" "[J") (.int 6)) (.long 1000000)) (by decide +kernel))).trans (congrArg (fun z => some (Value.long z)) (by decide +kernel))
    | 7, _ => exact (va_eqtl (z := 10000000) (hfl (Cond.eq (.elem (.static "FigureHouse" "TENS" "[J") (.int 7)) (.long 10000000)) (by decide +kernel))).trans (congrArg (fun z => some (Value.long z)) (by decide +kernel))
    | 8, _ => exact (va_eqtl (z := 100000000) (hfl (Cond.eq (.elem (.static "FigureHouse" "TENS" "[J") (.int 8)) (.long 100000000)) (by decide +kernel))).trans (congrArg (fun z => some (Value.long z)) (by decide +kernel))
    | 9, _ => exact (va_eqtl (z := 1000000000) (hfl (Cond.eq (.elem (.static "FigureHouse" "TENS" "[J") (.int 9)) (.long 1000000000)) (by decide +kernel))).trans (congrArg (fun z => some (Value.long z)) (by decide +kernel))
    | 10, _ => exact (va_eqtl (z := 10000000000) (hfl (Cond.eq (.elem (.static "FigureHouse" "TENS" "[J") (.int 10)) (.long 10000000000)) (by decide +kernel))).trans (congrArg (fun z => some (Value.long z)) (by decide +kernel))
    | 11, _ => exact (va_eqtl (z := 100000000000) (hfl (Cond.eq (.elem (.static "FigureHouse" "TENS" "[J") (.int 11)) (.long 100000000000)) (by decide +kernel))).trans (congrArg (fun z => some (Value.long z)) (by decide +kernel))
    | 12, _ => exact (va_eqtl (z := 1000000000000) (hfl (Cond.eq (.elem (.static "FigureHouse" "TENS" "[J") (.int 12)) (.long 1000000000000)) (by decide +kernel))).trans (congrArg (fun z => some (Value.long z)) (by decide +kernel))
  intro j hj
  obtain ⟨a', i, cell2, h1, h2, h3, h4, h5⟩ := Term.elem_spec (hel j hj)
  cases ht.symm.trans h1
  cases hat.symm.trans h3
  have hi : i = Int32.ofNat j := by
    have e : (Term.int (Int32.ofNat j)).eval args s none [] s = some (.int (Int32.ofNat j)) := rfl
    cases h2.symm.trans e
    rfl
  have hc : i.toNatClampNeg = j := by rw [hi]; exact Int32.toNatClampNeg_ofNat_of_lt (by omega)
  rw [hc] at h5
  exact h5
set_option maxHeartbeats 4000000 in
set_option maxRecDepth 100000 in
theorem g_ok {s : State} {b L : Nat} {xs : Nat → Int32} (hL : L ≤ 4096) (hts : ∀ w ∈ lw_tbl, w.before #[Value.ref b] s = true) (hX : va_X b L xs s s.heap) (hbl : b < s.heap.size) (hgv : (Jvm.Cond.and given_1 narrow_1).before #[Value.ref b] s = true) : ∃ (aT aE : Nat) (D : va_G), GH (s, #[Value.ref b], (aT, aE, b), D) ∧ THW (s, #[Value.ref b], (aT, aE, b), D) ∧ TNS (s, #[Value.ref b], (aT, aE, b), D) ∧ EMP (s, #[Value.ref b], (aT, aE, b), D) ∧ SCR (s, #[Value.ref b], (aT, aE, b), D) L (fun j => (xs j.toNat).toInt) ∧ Rep (s, #[Value.ref b], (aT, aE, b), D) kd0 (ln0 L) (mem0 (fun j => (xs j.toNat).toInt)) 3 s.heap := by
  have hfl := flat_of_before _ hgv
  obtain ⟨D, hD⟩ := cls_ok hts
  obtain ⟨aT, cT, t1, t2, t3, t4, t5, t6⟩ := stat_arr (tm := .static "FigureHouse" "TENS" "[J") (ty := .long) (N := 13) (by decide) (hfl _ (by decide +kernel)) (hfl _ (by decide +kernel))
  obtain ⟨aE, cE, e1, e2, e3, e4, e5, e6⟩ := stat_arr (tm := .static "java/util/ArrayList" "DEFAULTCAPACITY_EMPTY_ELEMENTDATA" "[Ljava/lang/Object;") (ty := .object "java/lang/Object") (N := 0) (by decide) (hfl _ (by decide +kernel)) (hfl _ (by decide +kernel))
  have hex : (Cond.exactly (.static "java/util/ArrayList" "DEFAULTCAPACITY_EMPTY_ELEMENTDATA" "[Ljava/lang/Object;") "[Ljava/lang/Object;").before #[Value.ref b] s = true := hfl _ (by decide +kernel)
  obtain ⟨a', c', cell', k', x1, x2, x3, x4, -, x6, -⟩ := Cond.exactly_spec hex
  cases e1.symm.trans x1
  cases e3.symm.trans x3
  have hten := ten_ok hgv t1 t2
  have hA : ∀ a : Nat, a < s.heap.size → ¬ (s.heap.size ≤ a) := fun a h => by omega
  have hlT : aT < s.heap.size := (Array.getElem?_eq_some_iff.mp t3).1
  have hlE : aE < s.heap.size := (Array.getElem?_eq_some_iff.mp e3).1
  obtain ⟨scr, s1, s2, s3, s4, s5⟩ := hX
  have hscr : arrOK (s, #[Value.ref b], (aT, aE, b), D) 0 L (fun j => (xs j.toNat).toInt) b s.heap := by
    refine ⟨scr, s1, ⟨s2, fun h => by cases h⟩, s3, by rw [s4], by omega, fun j hj => ?_⟩
    rw [s5 j (by omega)]
    show some (Value.int (xs j)) = some (Value.int (Int32.ofInt (xs ((j : Int).toNat)).toInt))
    rw [I_of]
    rfl
  have hG : GH (s, #[Value.ref b], (aT, aE, b), D) := ⟨hts, hD, hlT, hlE, hbl⟩
  refine ⟨aT, aE, D, hG, ⟨?_, ?_⟩, ?_, ?_, ⟨hscr, fun j => I_in _⟩, ⟨by omega, rfl, fun q _ => rfl, fun a ha => ?_, fun a ha => ?_, rfl, rfl, rfl⟩⟩
  · exact vx_Zqof (hts _ wx_1369) (hts _ wd_118) (hfl _ (by decide +kernel)) hA
  · exact vx_Zqof (hts _ wx_1371) (hts _ wd_118) (hfl _ (by decide +kernel)) hA
  · exact va_Zof (hts _ wx_522) (hts _ wd_101) t1 hA
  · exact va_Zof (hts _ wx_313) (hts _ wd_111) e1 hA
  · match a, ha with
    | 0, _ =>
      refine ⟨fun c h hc => ?_, fun k h hk => ?_⟩
      · have h : 21 = c + 1 := h
        omega
      · have h : 21 = k + 20 := h
        obtain rfl : k = 1 := by omega
        refine ⟨cT, t3, ⟨t4, fun h => by cases h⟩, t5, by rw [t6]; rfl, by omega, fun j hj => ?_⟩
        rw [hten j (by omega)]
        rfl
    | 1, _ =>
      refine ⟨fun c h hc => ?_, fun k h hk => ?_⟩
      · have h : 23 = c + 1 := h
        omega
      · have h : 23 = k + 20 := h
        obtain rfl : k = 3 := by omega
        exact ⟨cE, e3, ⟨e4, fun _ => by rw [x6]; exact x2⟩, e5, by rw [e6]; rfl, by omega, fun j hj => absurd hj (by omega)⟩
    | 2, _ =>
      refine ⟨fun c h hc => ?_, fun k h hk => ?_⟩
      · have h : 20 = c + 1 := h
        omega
      · have h : 20 = k + 20 := h
        obtain rfl : k = 0 := by omega
        exact hscr
  · unfold kd0 at ha
    by_cases h0 : a = 0
    · omega
    · by_cases h1 : a = 1
      · omega
      · by_cases h2 : a = 2
        · omega
        · rw [if_neg h0, if_neg h1, if_neg h2] at ha
          exact absurd rfl ha
end START
