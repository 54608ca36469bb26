section WALK
/-! the machine's state: kinds and lengths of the cells, what they hold, how many there are -/
def aty : Nat → FieldType
  | 0 => .int
  | 1 => .long
  | 2 => .boolean
  | _ => .object "java/lang/Object"
def atg : Nat → Nat
  | 0 => 0
  | 1 => 1
  | 2 => 0
  | _ => 2
def tagOf : FieldType → Nat
  | .int => 0
  | .boolean => 0
  | .long => 1
  | _ => 2
def ctys : List (Nat → FieldType) := [tyJx4a65c, tyX0, tyX1, tyX2, tyX3, tyX4, tyX5, tyX6, tyX7, tyX8, tyX9, tyX10, tyX11, tyX12]
def cty (c k : Nat) : FieldType := match ctys[c]? with
  | some f => f k
  | none => .int
def cRec (c : Nat) : vw_C := match vwCl[c]? with
  | some q => q
  | none => ("", fun _ => ("", "", "", false), 0)
def isArrX (g : GP) (cell : Cell) (k : Nat) : Prop := (gs g).isArrayOf cell (aty k) ∧ (k = 3 → (gs g).vm.findClass "[Ljava/lang/Object;" = some cell.cls)
def arrOK (g : GP) (k : Nat) (n : Int) (f : Int → Int) (q : Nat) (H : Heap) : Prop :=
  ∃ cell : Cell, H[q]? = some cell ∧ isArrX g cell k ∧ cell.vm ≠ .unknown ∧ (cell.slots.size : Int) = n ∧ cell.slots.size < 2147483648 ∧ ∀ j : Nat, j < cell.slots.size → cell.slots[j]? = some (cv g (atg k, f j))
def cellOK (g : GP) (kd : Int → Nat) (ln : Int → Int) (mem : Int → Int → Int) (H : Heap) (a : Nat) : Prop :=
  (∀ c : Nat, kd a = c + 1 → c < 14 → t_OB (adr g a) ((gD g).1 c) (cRec c).2.2 ((gD g).2 c) H (fun k => cv g (tagOf (cty c k), mem a k))) ∧
  (∀ k : Nat, kd a = k + 20 → k < 4 → arrOK g k (ln a) (mem a) (adr g a) H)
def Rep (g : GP) (kd : Int → Nat) (ln : Int → Int) (mem : Int → Int → Int) (sz : Nat) (H : Heap) : Prop :=
  3 ≤ sz ∧ H.size + 3 = gb g + sz ∧ (∀ q : Nat, q < gb g → H[q]? = (gs g).heap[q]?) ∧ (∀ a : Nat, a < sz → cellOK g kd ln mem H a) ∧ (∀ a : Int, kd a ≠ 0 → 0 ≤ a ∧ a < sz) ∧ kd 0 = 21 ∧ kd 1 = 23 ∧ kd 2 = 20
def GH (g : GP) : Prop :=
  (∀ w ∈ lw_tbl, w.before g.2.1 (gs g) = true) ∧ (∀ (c : Nat) (q : vw_C), vwCl[c]? = some q → u_Kn (gs g) q.1 q.2.1 q.2.2 ((gD g).1 c) ((gD g).2 c)) ∧ adr g 0 < gb g ∧ adr g 1 < gb g ∧ adr g 2 < gb g
def FX (z : ZT) (l : Launch) (g : GP) (nL : Nat) (cc : ByteArray) (own : String) (R : Room) : Prop := match z with
  | (p, l', _, R', s, m, _, _, meth, c) => p.tables.exec = Jvm.exec ∧ c.code = cc ∧ c.maxLocals = nL ∧ s.vm.findClass own = some m.cls ∧ (gs g).WarmedH s.vm ∧ GH g ∧ meth.locks = false ∧ R' = R ∧ l' = l
def J (z : ZT) (g : GP) (nL : Nat) (cells slots : Nat) (Q : State → Prop) (pc : Nat) (lo : List (Nat × AV)) (st : List AV) (kd : Int → Nat) (ln : Int → Int) (mem : Int → Int → Int) (sz : Nat) : Prop := match z with
  | (p, l, e, R, s, m, args, below, meth, c) => ∀ (ls : Array Slot) (H : Heap) (locs : List Loc), lv_has ls nL (cl g lo) → Rep g kd ln mem sz H → (∀ q ∈ locs, gb g ≤ q.base) → W p l e R s m args below meth c H locs cells slots Q (F0 m pc ls (st.map (cv g)))
section ROWS
variable {z : ZT} {g : GP} {nL : Nat} {cells slots : Nat} {Q : State → Prop} {pc : Nat} {lo : List (Nat × AV)} {st rest : List AV} {kd : Int → Nat} {ln : Int → Int} {mem : Int → Int → Int} {sz : Nat} {cc : ByteArray} {own : String} {R : Room}
theorem bipush_v {k : Int} (h : -128 ≤ k ∧ k ≤ 127) : (Int8.ofInt k).toInt32 = Int32.ofInt k := by
  apply Int32.toInt_inj.mp
  rw [Int8.toInt_toInt32, Int8.toInt_ofInt_of_le (by omega) (by omega), I_toInt ⟨by omega, by omega⟩]
theorem sipush_v {k : Int} (h : -32768 ≤ k ∧ k ≤ 32767) : (Int16.ofInt k).toInt32 = Int32.ofInt k := by
  apply Int32.toInt_inj.mp
  rw [Int16.toInt_toInt32, Int16.toInt_ofInt_of_le (by omega) (by omega), I_toInt ⟨by omega, by omega⟩]
theorem av_0 {g : GP} {v : AV} (h : v.1 = 0) : cv g v = .int (Int32.ofInt v.2) := by
  obtain ⟨t, a⟩ := v
  cases h
  rfl
theorem av_1 {g : GP} {v : AV} (h : v.1 = 1) : cv g v = .long (Int64.ofInt v.2) := by
  obtain ⟨t, a⟩ := v
  cases h
  rfl
theorem av_2 {g : GP} {v : AV} (h : v.1 = 2) : cv g v = cR g v.2 := by
  obtain ⟨t, a⟩ := v
  cases h
  rfl
theorem av_c1 {g : GP} {v : AV} (h : ¬ v.1 = 1) : (cv g v).category = 1 := by
  have h1 := cv_cat g v
  rcases lv_cat (cv g v) with h2 | h2
  · exact h2
  · rw [h2] at h1
    simp [h] at h1
set_option maxHeartbeats 4000000 in
theorem exi_ok {p : Program} {l : Launch} {e : Env} {s : State} {m : MethodId} {args : Array Value} {below : List Frame} {meth : Method} {c : Code} {H : Heap} {locs : List Loc} {i : Instr} {n : Nat} {lo' : List (Nat × AV)} {st' : List AV} {ls : Array Slot}
    (hx : p.tables.exec = Jvm.exec) (hb : c.code = cc) (hd : decode cc pc = .ok (i, n)) (he : exi nL i n lo st = some (lo', st')) (hl : lv_has ls nL (cl g lo))
    (k : ∀ ls' : Array Slot, lv_has ls' nL (cl g lo') → W p l e R s m args below meth c H locs cells slots Q (F0 m (pc + n) ls' (st'.map (cv g)))) : W p l e R s m args below meth c H locs cells slots Q (F0 m pc ls (st.map (cv g))) := by
  have bin0 : ∀ {f : Int → Int → Int}, xbin 0 f lo st = some (lo', st') → ∃ (a b : Int) (r : List AV), st = (0, b) :: (0, a) :: r ∧ lo' = lo ∧ st' = (0, f a b) :: r := by
    intro f h
    unfold xbin at h
    split at h
    · rename_i y x r
      split at h
      · rename_i hq
        obtain ⟨t1, a⟩ := x
        obtain ⟨t2, b⟩ := y
        cases hq.1
        cases hq.2
        cases h
        exact ⟨a, b, r, rfl, rfl, rfl⟩
      · cases h
    · cases h
  have bin1 : ∀ {f : Int → Int → Int}, xbin 1 f lo st = some (lo', st') → ∃ (a b : Int) (r : List AV), st = (1, b) :: (1, a) :: r ∧ lo' = lo ∧ st' = (1, f a b) :: r := by
    intro f h
    unfold xbin at h
    split at h
    · rename_i y x r
      split at h
      · rename_i hq
        obtain ⟨t1, a⟩ := x
        obtain ⟨t2, b⟩ := y
        cases hq.1
        cases hq.2
        cases h
        exact ⟨a, b, r, rfl, rfl, rfl⟩
      · cases h
    · cases h
  have un : ∀ {t t' : Nat} {f : Int → Int}, xun t t' f lo st = some (lo', st') → ∃ (a : Int) (r : List AV), st = (t, a) :: r ∧ lo' = lo ∧ st' = (t', f a) :: r := by
    intro t t' f h
    unfold xun at h
    split at h
    · rename_i x r
      split at h
      · rename_i hq
        obtain ⟨t1, a⟩ := x
        cases hq
        cases h
        exact ⟨a, r, rfl, rfl, rfl⟩
      · cases h
    · cases h
  have ld : ∀ {t k : Nat}, xload t k lo st = some (lo', st') → ∃ v : AV, v.1 = t ∧ ls[k]? = some (.val (cv g v)) ∧ lo' = lo ∧ st' = v :: st := by
    intro t k h
    unfold xload at h
    split at h
    · rename_i v hv
      cases h
      obtain ⟨h1, h2⟩ := lget_ok hl hv
      exact ⟨v, h1, h2, rfl, rfl⟩
    · cases h
  have s1 : ∀ {t k : Nat}, xst1 t k nL lo st = some (lo', st') → ∃ (a : Int) (r : List AV), st = (t, a) :: r ∧ k < nL ∧ lo' = lput1 lo k (t, a) ∧ st' = r := by
    intro t k h
    unfold xst1 at h
    split at h
    · rename_i x r
      split at h
      · rename_i hq
        obtain ⟨t1, a⟩ := x
        cases hq.1
        cases h
        exact ⟨a, _, rfl, hq.2, rfl, rfl⟩
      · cases h
    · cases h
  have s2 : ∀ {k : Nat}, xst2 k nL lo st = some (lo', st') → ∃ (a : Int) (r : List AV), st = (1, a) :: r ∧ k + 1 < nL ∧ lo' = lput2 lo k (1, a) ∧ st' = r := by
    intro k h
    unfold xst2 at h
    split at h
    · rename_i x r
      split at h
      · rename_i hq
        obtain ⟨t1, a⟩ := x
        cases hq.1
        cases h
        exact ⟨a, _, rfl, hq.2, rfl, rfl⟩
      · cases h
    · cases h
  cases i <;> simp only [exi] at he <;> try (cases he; done)
  case aconst_null =>
    by_cases hn : n = 1
    rotate_left
    · rw [if_neg hn] at he; cases he
    rw [if_pos hn] at he
    subst hn
    cases he
    exact lv_null hx hb hd (k ls hl)
  case aload_n v =>
    by_cases hn : n = 1
    rotate_left
    · rw [if_neg hn] at he; cases he
    rw [if_pos hn] at he
    subst hn
    obtain ⟨w, h1, h2, rfl, rfl⟩ := ld he
    rw [av_2 h1] at h2
    have k1 := k ls hl
    rw [List.map_cons, av_2 h1] at k1
    obtain ⟨t, x⟩ := w
    cases x with
    | ofNat x => exact lv_aload_n hx hb hd rfl h2 k1
    | negSucc x => exact lv_aload_nN hx hb hd rfl h2 k1
  case aload v =>
    by_cases hn : n = 2
    rotate_left
    · rw [if_neg hn] at he; cases he
    rw [if_pos hn] at he
    subst hn
    obtain ⟨w, h1, h2, rfl, rfl⟩ := ld he
    rw [av_2 h1] at h2
    have k1 := k ls hl
    rw [List.map_cons, av_2 h1] at k1
    obtain ⟨t, x⟩ := w
    cases x with
    | ofNat x => exact lv_aload hx hb hd h2 k1
    | negSucc x => exact lv_aloadN hx hb hd h2 k1
  case astore_n v =>
    by_cases hn : n = 1
    rotate_left
    · rw [if_neg hn] at he; cases he
    rw [if_pos hn] at he
    subst hn
    obtain ⟨a, r, rfl, h1, rfl, rfl⟩ := s1 he
    cases a with
    | ofNat x => exact lv_astore_n hx hb hd rfl hl h1 (cl_lput1 g lo v (2, Int.ofNat x)) k
    | negSucc x => exact lv_astore_nN hx hb hd rfl hl h1 (cl_lput1 g lo v (2, Int.negSucc x)) k
  case astore v =>
    by_cases hn : n = 2
    rotate_left
    · rw [if_neg hn] at he; cases he
    rw [if_pos hn] at he
    subst hn
    obtain ⟨a, r, rfl, h1, rfl, rfl⟩ := s1 he
    cases a with
    | ofNat x => exact lv_astore hx hb hd hl h1 (cl_lput1 g lo v (2, Int.ofNat x)) k
    | negSucc x => exact lv_astoreN hx hb hd hl h1 (cl_lput1 g lo v (2, Int.negSucc x)) k
  case iconst v =>
    by_cases hn : n = 1
    rotate_left
    · rw [if_neg hn] at he; cases he
    rw [if_pos hn] at he
    subst hn
    cases he
    exact lv_iconst hx hb hd rfl (k ls hl)
  case bipush v =>
    by_cases hn : n = 2 ∧ -128 ≤ v ∧ v ≤ 127
    rotate_left
    · rw [if_neg hn] at he; cases he
    rw [if_pos hn] at he
    obtain ⟨hn, hr⟩ := hn
    subst hn
    cases he
    exact lv_bipush hx hb hd (bipush_v hr) (k ls hl)
  case sipush v =>
    by_cases hn : n = 3 ∧ -32768 ≤ v ∧ v ≤ 32767
    rotate_left
    · rw [if_neg hn] at he; cases he
    rw [if_pos hn] at he
    obtain ⟨hn, hr⟩ := hn
    subst hn
    cases he
    exact lv_sipush hx hb hd (sipush_v hr) (k ls hl)
  case iload_n v =>
    by_cases hn : n = 1
    rotate_left
    · rw [if_neg hn] at he; cases he
    rw [if_pos hn] at he
    subst hn
    obtain ⟨w, h1, h2, rfl, rfl⟩ := ld he
    rw [av_0 h1] at h2
    refine lv_iload_n hx hb hd rfl h2 ?_
    have := k ls hl
    rw [List.map_cons, av_0 h1] at this
    exact this
  case iload v =>
    by_cases hn : n = 2
    rotate_left
    · rw [if_neg hn] at he; cases he
    rw [if_pos hn] at he
    subst hn
    obtain ⟨w, h1, h2, rfl, rfl⟩ := ld he
    rw [av_0 h1] at h2
    refine lv_iload hx hb hd h2 ?_
    have := k ls hl
    rw [List.map_cons, av_0 h1] at this
    exact this
  case lload_n v =>
    by_cases hn : n = 1
    rotate_left
    · rw [if_neg hn] at he; cases he
    rw [if_pos hn] at he
    subst hn
    obtain ⟨w, h1, h2, rfl, rfl⟩ := ld he
    rw [av_1 h1] at h2
    refine lv_lload_n hx hb hd rfl h2 ?_
    have := k ls hl
    rw [List.map_cons, av_1 h1] at this
    exact this
  case lload v =>
    by_cases hn : n = 2
    rotate_left
    · rw [if_neg hn] at he; cases he
    rw [if_pos hn] at he
    subst hn
    obtain ⟨w, h1, h2, rfl, rfl⟩ := ld he
    rw [av_1 h1] at h2
    refine lv_lload hx hb hd h2 ?_
    have := k ls hl
    rw [List.map_cons, av_1 h1] at this
    exact this
  case istore_n v =>
    by_cases hn : n = 1
    rotate_left
    · rw [if_neg hn] at he; cases he
    rw [if_pos hn] at he
    subst hn
    obtain ⟨a, r, rfl, h1, rfl, rfl⟩ := s1 he
    exact lv_istore_n hx hb hd rfl hl h1 (cl_lput1 g lo v (0, a)) k
  case istore v =>
    by_cases hn : n = 2
    rotate_left
    · rw [if_neg hn] at he; cases he
    rw [if_pos hn] at he
    subst hn
    obtain ⟨a, r, rfl, h1, rfl, rfl⟩ := s1 he
    exact lv_istore hx hb hd hl h1 (cl_lput1 g lo v (0, a)) k
  case lstore_n v =>
    by_cases hn : n = 1
    rotate_left
    · rw [if_neg hn] at he; cases he
    rw [if_pos hn] at he
    subst hn
    obtain ⟨a, r, rfl, h1, rfl, rfl⟩ := s2 he
    exact lv_lstore_n hx hb hd rfl hl h1 (cl_lput2 g lo v (1, a)) k
  case lstore v =>
    by_cases hn : n = 2
    rotate_left
    · rw [if_neg hn] at he; cases he
    rw [if_pos hn] at he
    subst hn
    obtain ⟨a, r, rfl, h1, rfl, rfl⟩ := s2 he
    exact lv_lstore hx hb hd hl h1 (cl_lput2 g lo v (1, a)) k
  case iadd =>
    by_cases hn : n = 1
    rotate_left
    · rw [if_neg hn] at he; cases he
    rw [if_pos hn] at he
    subst hn
    obtain ⟨a, b, r, rfl, rfl, rfl⟩ := bin0 he
    refine lv_iadd hx hb hd ?_
    have := k ls hl
    rw [List.map_cons, show cv g (0, a + b) = .int (Int32.ofInt a + Int32.ofInt b) from by simp [cv, Int32.ofInt_add]] at this
    exact this
  case isub =>
    by_cases hn : n = 1
    rotate_left
    · rw [if_neg hn] at he; cases he
    rw [if_pos hn] at he
    subst hn
    obtain ⟨a, b, r, rfl, rfl, rfl⟩ := bin0 he
    refine lv_isub hx hb hd ?_
    have := k ls hl
    rw [List.map_cons, show cv g (0, a - b) = .int (Int32.ofInt a - Int32.ofInt b) from by simp [cv, Int32.ofInt_sub]] at this
    exact this
  case imul =>
    by_cases hn : n = 1
    rotate_left
    · rw [if_neg hn] at he; cases he
    rw [if_pos hn] at he
    subst hn
    obtain ⟨a, b, r, rfl, rfl, rfl⟩ := bin0 he
    refine lv_imul hx hb hd ?_
    have := k ls hl
    rw [List.map_cons, show cv g (0, a * b) = .int (Int32.ofInt a * Int32.ofInt b) from by simp [cv, Int32.ofInt_mul]] at this
    exact this
  case ladd =>
    by_cases hn : n = 1
    rotate_left
    · rw [if_neg hn] at he; cases he
    rw [if_pos hn] at he
    subst hn
    obtain ⟨a, b, r, rfl, rfl, rfl⟩ := bin1 he
    refine lv_ladd hx hb hd ?_
    have := k ls hl
    rw [List.map_cons, show cv g (1, a + b) = .long (Int64.ofInt a + Int64.ofInt b) from by simp [cv, Int64.ofInt_add]] at this
    exact this
  case lsub =>
    by_cases hn : n = 1
    rotate_left
    · rw [if_neg hn] at he; cases he
    rw [if_pos hn] at he
    subst hn
    obtain ⟨a, b, r, rfl, rfl, rfl⟩ := bin1 he
    refine lv_lsub hx hb hd ?_
    have := k ls hl
    rw [List.map_cons, show cv g (1, a - b) = .long (Int64.ofInt a - Int64.ofInt b) from by simp [cv, Int64.ofInt_sub]] at this
    exact this
  case lmul =>
    by_cases hn : n = 1
    rotate_left
    · rw [if_neg hn] at he; cases he
    rw [if_pos hn] at he
    subst hn
    obtain ⟨a, b, r, rfl, rfl, rfl⟩ := bin1 he
    refine lv_lmul hx hb hd ?_
    have := k ls hl
    rw [List.map_cons, show cv g (1, a * b) = .long (Int64.ofInt a * Int64.ofInt b) from by simp [cv, Int64.ofInt_mul]] at this
    exact this
  case iand =>
    by_cases hn : n = 1
    rotate_left
    · rw [if_neg hn] at he; cases he
    rw [if_pos hn] at he
    subst hn
    obtain ⟨a, b, r, rfl, rfl, rfl⟩ := bin0 he
    refine lv_iand hx hb hd ?_
    have := k ls hl
    rw [List.map_cons, show cv g (0, fand a b) = .int (Int32.ofInt a &&& Int32.ofInt b) from by simp [cv, fand]] at this
    exact this
  case ishl =>
    by_cases hn : n = 1
    rotate_left
    · rw [if_neg hn] at he; cases he
    rw [if_pos hn] at he
    subst hn
    obtain ⟨a, b, r, rfl, rfl, rfl⟩ := bin0 he
    refine lv_ishl hx hb hd ?_
    have := k ls hl
    rw [List.map_cons, show cv g (0, fishl a b) = .int (Int32.ofInt a <<< (Int32.ofInt b &&& 31)) from by simp [cv, fishl]] at this
    exact this
  case ishr =>
    by_cases hn : n = 1
    rotate_left
    · rw [if_neg hn] at he; cases he
    rw [if_pos hn] at he
    subst hn
    obtain ⟨a, b, r, rfl, rfl, rfl⟩ := bin0 he
    refine lv_ishr hx hb hd ?_
    have := k ls hl
    rw [List.map_cons, show cv g (0, fishr a b) = .int (Int32.ofInt a >>> (Int32.ofInt b &&& 31)) from by simp [cv, fishr]] at this
    exact this
  case iushr =>
    by_cases hn : n = 1
    rotate_left
    · rw [if_neg hn] at he; cases he
    rw [if_pos hn] at he
    subst hn
    obtain ⟨a, b, r, rfl, rfl, rfl⟩ := bin0 he
    refine lv_iushr hx hb hd rfl ?_
    have := k ls hl
    rw [List.map_cons, show cv g (0, fiushr a b) = .int ((Int32.ofInt a).toUInt32 >>> ((Int32.ofInt b).toUInt32 &&& Int32.toUInt32 31)).toInt32 from by simp only [cv, fiushr, I_of]] at this
    exact this
  case land =>
    by_cases hn : n = 1
    rotate_left
    · rw [if_neg hn] at he; cases he
    rw [if_pos hn] at he
    subst hn
    obtain ⟨a, b, r, rfl, rfl, rfl⟩ := bin1 he
    refine lv_land hx hb hd ?_
    have := k ls hl
    rw [List.map_cons, show cv g (1, fland a b) = .long (Int64.ofInt a &&& Int64.ofInt b) from by simp [cv, fland]] at this
    exact this
  case lor =>
    by_cases hn : n = 1
    rotate_left
    · rw [if_neg hn] at he; cases he
    rw [if_pos hn] at he
    subst hn
    obtain ⟨a, b, r, rfl, rfl, rfl⟩ := bin1 he
    refine lv_lor hx hb hd ?_
    have := k ls hl
    rw [List.map_cons, show cv g (1, flor a b) = .long (Int64.ofInt a ||| Int64.ofInt b) from by simp [cv, flor]] at this
    exact this
  case lxor =>
    by_cases hn : n = 1
    rotate_left
    · rw [if_neg hn] at he; cases he
    rw [if_pos hn] at he
    subst hn
    obtain ⟨a, b, r, rfl, rfl, rfl⟩ := bin1 he
    refine lv_lxor hx hb hd ?_
    have := k ls hl
    rw [List.map_cons, show cv g (1, flxor a b) = .long (Int64.ofInt a ^^^ Int64.ofInt b) from by simp [cv, flxor]] at this
    exact this
  case ineg =>
    by_cases hn : n = 1
    rotate_left
    · rw [if_neg hn] at he; cases he
    rw [if_pos hn] at he
    subst hn
    obtain ⟨a, r, rfl, rfl, rfl⟩ := un he
    refine lv_ineg hx hb hd  ?_
    have := k ls hl
    rw [List.map_cons, show cv g (0, -a) = .int (-Int32.ofInt a) from by simp [cv, Int32.ofInt_neg]] at this
    exact this
  case lneg =>
    by_cases hn : n = 1
    rotate_left
    · rw [if_neg hn] at he; cases he
    rw [if_pos hn] at he
    subst hn
    obtain ⟨a, r, rfl, rfl, rfl⟩ := un he
    refine lv_lneg hx hb hd  ?_
    have := k ls hl
    rw [List.map_cons, show cv g (1, -a) = .long (-Int64.ofInt a) from by simp [cv, Int64.ofInt_neg]] at this
    exact this
  case l2i =>
    by_cases hn : n = 1
    rotate_left
    · rw [if_neg hn] at he; cases he
    rw [if_pos hn] at he
    subst hn
    obtain ⟨a, r, rfl, rfl, rfl⟩ := un he
    refine lv_l2i hx hb hd (I_l2i a) ?_
    have := k ls hl
    rw [List.map_cons, show cv g (0, a) = .int (Int32.ofInt a) from rfl] at this
    exact this
  case i2b =>
    by_cases hn : n = 1
    rotate_left
    · rw [if_neg hn] at he; cases he
    rw [if_pos hn] at he
    subst hn
    obtain ⟨a, r, rfl, rfl, rfl⟩ := un he
    refine lv_i2b hx hb hd rfl ?_
    have := k ls hl
    rw [List.map_cons, show cv g (0, fi2b a) = .int (Int32.ofInt a).toInt8.toInt32 from by simp only [cv, fi2b, I_of]] at this
    exact this
  case i2s =>
    by_cases hn : n = 1
    rotate_left
    · rw [if_neg hn] at he; cases he
    rw [if_pos hn] at he
    subst hn
    obtain ⟨a, r, rfl, rfl, rfl⟩ := un he
    refine lv_i2s hx hb hd rfl ?_
    have := k ls hl
    rw [List.map_cons, show cv g (0, fi2s a) = .int (Int32.ofInt a).toInt16.toInt32 from by simp only [cv, fi2s, I_of]] at this
    exact this
  case iinc v w =>
    by_cases hn : n = 3 ∧ v < nL
    rotate_left
    · rw [if_neg hn] at he; cases he
    rw [if_pos hn] at he
    obtain ⟨hn, hr⟩ := hn
    subst hn
    split at he
    · rename_i x hv
      cases he
      obtain ⟨h1, h2⟩ := lget_ok hl hv
      rw [av_0 h1] at h2
      obtain ⟨l2, hl2⟩ : ∃ l2 : List (Nat × Value), l2 = (v, Value.int (Int32.ofInt x.2)) :: cl g lo := ⟨_, rfl⟩
      have hl3 : lv_has ls nL l2 := ⟨hl.1, hl.2.1, fun q hq => by
          rw [hl2] at hq
          rcases List.mem_cons.mp hq with rfl | hq
          · exact h2
          · exact hl.2.2 q hq⟩
      refine lv_iinc (k := 0) (v := Int32.ofInt (x.2 + w)) (lv' := cl g (lput1 lo v (0, x.2 + w))) hx hb hd hl3 (by rw [hl2]; rfl) (by rw [Int32.ofInt_add]) hr ?_ k
      rw [hl2, ← cl_lput1]
      simp [cv]
    · cases he
  case dup =>
    split at he
    · rename_i x r
      by_cases hn : n = 1 ∧ ¬ x.1 = 1
      · rw [if_pos hn] at he
        obtain ⟨hn, hx0⟩ := hn
        subst hn
        cases he
        refine lv_dup hx hb hd (av_c1 hx0) (k ls hl)
      · rw [if_neg hn] at he; cases he
    · cases he
  case pop =>
    split at he
    · rename_i x r
      by_cases hn : n = 1 ∧ ¬ x.1 = 1
      · rw [if_pos hn] at he
        obtain ⟨hn, hx0⟩ := hn
        subst hn
        cases he
        refine lv_pop hx hb hd (av_c1 hx0) (k ls hl)
      · rw [if_neg hn] at he; cases he
    · cases he
end ROWS
end WALK
