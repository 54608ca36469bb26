/-! The Int machine: a walk whose values are whole numbers (Int), whose references are small numbers, whose heap is a function of two numbers. -/
section CORE
/-- a value: its kind (0 int, 1 long, 2 reference) and its number (a reference: -1 is null) -/
abbrev AV : Type := Nat × Int
/-- a walk: program, launch, environment, room, start, method, arguments, what lies below, the method's record, its code -/
abbrev ZT : Type := Program × Launch × Env × Room × State × MethodId × Array Value × List Frame × Method × Code
/-- the law's start, its arguments, the cells that are only read (TENS, the empty row, the script), the classes' numbers and slots -/
abbrev GP : Type := State × Array Value × (Nat × Nat × Nat) × va_G
def gs (g : GP) : State := g.1
def gb (g : GP) : Nat := g.1.heap.size
def gD (g : GP) : va_G := g.2.2.2
def adr (g : GP) : Nat → Nat
  | 0 => g.2.2.1.1
  | 1 => g.2.2.1.2.1
  | 2 => g.2.2.1.2.2
  | k + 3 => gb g + k
def cR (g : GP) : Int → Value
  | .ofNat n => .ref (adr g n)
  | .negSucc _ => .null
def cv (g : GP) (v : AV) : Value := match v.1 with
  | 0 => .int (Int32.ofInt v.2)
  | 1 => .long (Int64.ofInt v.2)
  | _ => cR g v.2
def cl (g : GP) (lo : List (Nat × AV)) : List (Nat × Value) := lo.map (fun q => (q.1, cv g q.2))
abbrev InI (a : Int) : Prop := -2147483648 ≤ a ∧ a ≤ 2147483647
abbrev InL (a : Int) : Prop := -9223372036854775808 ≤ a ∧ a ≤ 9223372036854775807
theorem I_toInt {a : Int} (h : InI a) : (Int32.ofInt a).toInt = a := Int32.toInt_ofInt_of_le (by have := h.1; omega) (by have := h.2; omega)
theorem L_toInt {a : Int} (h : InL a) : (Int64.ofInt a).toInt = a := Int64.toInt_ofInt_of_le (by have := h.1; omega) (by have := h.2; omega)
theorem I_eq {a b : Int} (ha : InI a) (hb : InI b) : Int32.ofInt a = Int32.ofInt b ↔ a = b := by rw [← Int32.toInt_inj, I_toInt ha, I_toInt hb]
theorem I_lt {a b : Int} (ha : InI a) (hb : InI b) : Int32.ofInt a < Int32.ofInt b ↔ a < b := by rw [Int32.lt_iff_toInt_lt, I_toInt ha, I_toInt hb]
theorem I_le {a b : Int} (ha : InI a) (hb : InI b) : Int32.ofInt a ≤ Int32.ofInt b ↔ a ≤ b := by rw [Int32.le_iff_toInt_le, I_toInt ha, I_toInt hb]
theorem I_0 : (0 : Int32) = Int32.ofInt 0 := rfl
theorem InI_0 : InI 0 := ⟨by omega, by omega⟩
theorem I_of (x : Int32) : Int32.ofInt x.toInt = x := Int32.ofInt_toInt x
theorem L_of (x : Int64) : Int64.ofInt x.toInt = x := Int64.ofInt_toInt x
theorem I_in (x : Int32) : InI x.toInt := ⟨Int32.le_toInt x, by have := Int32.toInt_lt x; omega⟩
theorem L_in (x : Int64) : InL x.toInt := ⟨Int64.le_toInt x, by have := Int64.toInt_lt x; omega⟩
theorem I_i2l {a : Int} (h : InI a) : (Int32.ofInt a).toInt64 = Int64.ofInt a := by
  apply Int64.toInt_inj.mp
  rw [Int32.toInt_toInt64, I_toInt h, L_toInt ⟨by have := h.1; omega, by have := h.2; omega⟩]
theorem I_l2i (a : Int) : (Int64.ofInt a).toInt32 = Int32.ofInt a := by
  first | exact Int64.toInt32_ofInt | exact Int64.toInt32_ofInt _ | simp
/-- the other operations on numbers, as the machine's own -/
def fand (a b : Int) : Int := (Int32.ofInt a &&& Int32.ofInt b).toInt
def fishl (a b : Int) : Int := (Int32.ofInt a <<< (Int32.ofInt b &&& 31)).toInt
def fishr (a b : Int) : Int := (Int32.ofInt a >>> (Int32.ofInt b &&& 31)).toInt
def fiushr (a b : Int) : Int := ((Int32.ofInt a).toUInt32 >>> ((Int32.ofInt b).toUInt32 &&& Int32.toUInt32 31)).toInt32.toInt
def fi2b (a : Int) : Int := (Int32.ofInt a).toInt8.toInt32.toInt
def fi2s (a : Int) : Int := (Int32.ofInt a).toInt16.toInt32.toInt
def fland (a b : Int) : Int := (Int64.ofInt a &&& Int64.ofInt b).toInt
def flor (a b : Int) : Int := (Int64.ofInt a ||| Int64.ofInt b).toInt
def flxor (a b : Int) : Int := (Int64.ofInt a ^^^ Int64.ofInt b).toInt
/-- one instruction without choice -/
def lget (lo : List (Nat × AV)) (i t : Nat) : Option AV := match lo.find? (fun q => q.1 == i) with
  | some q => if q.2.1 = t then some q.2 else none
  | none => none
def lput1 (lo : List (Nat × AV)) (i : Nat) (v : AV) : List (Nat × AV) := (i, v) :: lo.filter (fun q => !(q.1 == i) && !(q.1 + 1 == i && q.2.1 == 1))
def lput2 (lo : List (Nat × AV)) (i : Nat) (v : AV) : List (Nat × AV) := (i, v) :: lo.filter (fun q => !(q.1 == i) && (!(q.1 == i + 1) && !(q.1 + 1 == i && q.2.1 == 1)))
def xbin (t : Nat) (f : Int → Int → Int) (lo : List (Nat × AV)) (st : List AV) : Option (List (Nat × AV) × List AV) := match st with
  | y :: x :: r => if x.1 = t ∧ y.1 = t then some (lo, (t, f x.2 y.2) :: r) else none
  | _ => none
def xun (t t' : Nat) (f : Int → Int) (lo : List (Nat × AV)) (st : List AV) : Option (List (Nat × AV) × List AV) := match st with
  | x :: r => if x.1 = t then some (lo, (t', f x.2) :: r) else none
  | _ => none
def xload (t i : Nat) (lo : List (Nat × AV)) (st : List AV) : Option (List (Nat × AV) × List AV) := match lget lo i t with
  | some v => some (lo, v :: st)
  | none => none
def xst1 (t i nL : Nat) (lo : List (Nat × AV)) (st : List AV) : Option (List (Nat × AV) × List AV) := match st with
  | x :: r => if x.1 = t ∧ i < nL then some (lput1 lo i x, r) else none
  | _ => none
def xst2 (i nL : Nat) (lo : List (Nat × AV)) (st : List AV) : Option (List (Nat × AV) × List AV) := match st with
  | x :: r => if x.1 = 1 ∧ i + 1 < nL then some (lput2 lo i x, r) else none
  | _ => none
def exi (nL : Nat) (i : Instr) (n : Nat) (lo : List (Nat × AV)) (st : List AV) : Option (List (Nat × AV) × List AV) := match i with
  | .iconst k => if n = 1 then some (lo, (0, k) :: st) else none
  | .bipush k => if n = 2 ∧ -128 ≤ k ∧ k ≤ 127 then some (lo, (0, k) :: st) else none
  | .sipush k => if n = 3 ∧ -32768 ≤ k ∧ k ≤ 32767 then some (lo, (0, k) :: st) else none
  | .iload_n k => if n = 1 then xload 0 k lo st else none
  | .iload k => if n = 2 then xload 0 k lo st else none
  | .lload_n k => if n = 1 then xload 1 k lo st else none
  | .lload k => if n = 2 then xload 1 k lo st else none
  | .istore_n k => if n = 1 then xst1 0 k nL lo st else none
  | .istore k => if n = 2 then xst1 0 k nL lo st else none
  | .lstore_n k => if n = 1 then xst2 k nL lo st else none
  | .lstore k => if n = 2 then xst2 k nL lo st else none
  | .iadd => if n = 1 then xbin 0 (fun a b => a + b) lo st else none
  | .isub => if n = 1 then xbin 0 (fun a b => a - b) lo st else none
  | .imul => if n = 1 then xbin 0 (fun a b => a * b) lo st else none
  | .iand => if n = 1 then xbin 0 fand lo st else none
  | .ishl => if n = 1 then xbin 0 fishl lo st else none
  | .ishr => if n = 1 then xbin 0 fishr lo st else none
  | .iushr => if n = 1 then xbin 0 fiushr lo st else none
  | .ineg => if n = 1 then xun 0 0 (fun a => -a) lo st else none
  | .ladd => if n = 1 then xbin 1 (fun a b => a + b) lo st else none
  | .lsub => if n = 1 then xbin 1 (fun a b => a - b) lo st else none
  | .lmul => if n = 1 then xbin 1 (fun a b => a * b) lo st else none
  | .lneg => if n = 1 then xun 1 1 (fun a => -a) lo st else none
  | .land => if n = 1 then xbin 1 fland lo st else none
  | .lor => if n = 1 then xbin 1 flor lo st else none
  | .lxor => if n = 1 then xbin 1 flxor lo st else none
  | .l2i => if n = 1 then xun 1 0 (fun a => a) lo st else none
  | .i2b => if n = 1 then xun 0 0 fi2b lo st else none
  | .i2s => if n = 1 then xun 0 0 fi2s lo st else none
  | .iinc i k => if n = 3 ∧ i < nL then (match lget lo i 0 with
    | some v => some (lput1 lo i (0, v.2 + k), st)
    | none => none) else none
  | .aload_n k => if n = 1 then xload 2 k lo st else none
  | .aload k => if n = 2 then xload 2 k lo st else none
  | .astore_n k => if n = 1 then xst1 2 k nL lo st else none
  | .astore k => if n = 2 then xst1 2 k nL lo st else none
  | .aconst_null => if n = 1 then some (lo, (2, -1) :: st) else none
  | .dup => match st with
    | x :: r => if n = 1 ∧ ¬ x.1 = 1 then some (lo, x :: x :: r) else none
    | _ => none
  | .pop => match st with
    | x :: r => if n = 1 ∧ ¬ x.1 = 1 then some (lo, r) else none
    | _ => none
  | _ => none
def rb (nL : Nat) : List (Instr × Nat) → Nat → List (Nat × AV) → List AV → Option (Nat × List (Nat × AV) × List AV)
  | [], pc, lo, st => some (pc, lo, st)
  | q :: B, pc, lo, st => match exi nL q.1 q.2 lo st with
    | some r => rb nL B (pc + q.2) r.1 r.2
    | none => none
def chk (cc : ByteArray) : Nat → List (Instr × Nat) → Bool
  | _, [] => true
  | pc, q :: B => decide (decode cc pc = .ok (q.1, q.2)) && chk cc (pc + q.2) B
theorem lget_ok {g : GP} {ls : Array Slot} {nL : Nat} {lo : List (Nat × AV)} (h : lv_has ls nL (cl g lo)) {i t : Nat} {v : AV} (e : lget lo i t = some v) : v.1 = t ∧ ls[i]? = some (.val (cv g v)) := by
  unfold lget at e
  split at e
  · rename_i q hq
    split at e
    · rename_i ht
      cases e
      have h1 := List.find?_some hq
      have h2 := List.mem_of_find?_eq_some hq
      have h3 : q.1 = i := by simpa using h1
      refine ⟨ht, ?_⟩
      have := h.2.2 (q.1, cv g q.2) (List.mem_map.mpr ⟨q, h2, rfl⟩)
      rw [h3] at this
      exact this
    · cases e
  · cases e
theorem cv_cat (g : GP) (v : AV) : ((cv g v).category == 2) = (v.1 == 1) := by
  obtain ⟨t, a⟩ := v
  match t with
  | 0 => rfl
  | 1 => rfl
  | t + 2 =>
    show ((cR g a).category == 2) = _
    cases a <;> simp [cR, Value.category]
theorem cl_lput1 (g : GP) (lo : List (Nat × AV)) (i : Nat) (v : AV) : (i, cv g v) :: (cl g lo).filter (fun q => !(q.1 == i) && !(q.1 + 1 == i && q.2.category == 2)) = cl g (lput1 lo i v) := by
  simp only [cl, lput1, List.map_cons, List.filter_map]
  congr 2
  apply List.filter_congr
  intro q _
  simp [cv_cat]
theorem cl_lput2 (g : GP) (lo : List (Nat × AV)) (i : Nat) (v : AV) : (i, cv g v) :: (cl g lo).filter (fun q => !(q.1 == i) && (!(q.1 == i + 1) && !(q.1 + 1 == i && q.2.category == 2))) = cl g (lput2 lo i v) := by
  simp only [cl, lput2, List.map_cons, List.filter_map]
  congr 2
  apply List.filter_congr
  intro q _
  simp [cv_cat]
end CORE
