section SPEC3
/-- what pages and functions are read from is the same -/
def EQ36 (mem mm : Int → Int → Int) : Prop := ∀ a j : Int, 36 ≤ a → a ≠ 59 → a ≠ 60 → a ≠ 61 → a ≠ 62 → mm a j = mem a j
theorem FR.e {mem mm : Int → Int → Int} (h : FR mem mm) : EQ36 mem mm := fun a j _ h1 h2 h3 h4 => h a j h1 h2 h3 h4
theorem EQ36.f {mem : Int → Int → Int} (k v : Int) : EQ36 mem (set2 mem 35 k v) := fun a j h _ _ _ _ => s2_a (by omega)
theorem EQ36.rf {mem : Int → Int → Int} : EQ36 mem mem := fun _ _ _ _ _ _ _ => rfl
theorem EQ36.tr {a b c : Int → Int → Int} (h1 : EQ36 a b) (h2 : EQ36 b c) : EQ36 a c := fun x j q q1 q2 q3 q4 => (h2 x j q q1 q2 q3 q4).trans (h1 x j q q1 q2 q3 q4)
theorem EQ36.at {mem mm : Int → Int → Int} (h : EQ36 mem mm) (a : Int) (ha : 36 ≤ a ∧ a ≠ 59 ∧ a ≠ 60 ∧ a ≠ 61 ∧ a ≠ 62) : mm a = mem a := funext fun j => h a j ha.1 ha.2.1 ha.2.2.1 ha.2.2.2.1 ha.2.2.2.2
section EQS
variable {mem mm : Int → Int → Int}
theorem EQ36.fFN (h : EQ36 mem mm) {f : Int} (hf : FN mem f) : FN mm f := by
  unfold FN
  rw [h.at 36 (by decide), h.at 37 (by decide), h.at 38 (by decide)]
  exact hf
theorem EQ36.fPG (h : EQ36 mem mm) {p : Int} (hp : PG mem p) : PG mm p := by
  unfold PG FN
  rw [h.at 36 (by decide), h.at 37 (by decide), h.at 38 (by decide), h.at 45 (by decide), h.at 46 (by decide), h.at 47 (by decide), h.at 48 (by decide), h.at 49 (by decide), h.at 50 (by decide), h.at 51 (by decide), h.at 52 (by decide), h.at 53 (by decide)]
  exact hp
theorem EQ36.fPGS (h : EQ36 mem mm) (h35 : mm 35 33 = mem 35 33) (hp : PGS mem) : PGS mm := by
  unfold PGS
  rw [h35]
  exact ⟨hp.1, hp.2.1, fun p h1 h2 => h.fPG (hp.2.2 p h1 h2)⟩
theorem EQ36.fnearP (h : EQ36 mem mm) (p : Int) : nearP mm p = nearP mem p := by
  unfold nearP nearL
  rw [h.at 36 (by decide), h.at 37 (by decide), h.at 38 (by decide), h.at 45 (by decide), h.at 46 (by decide), h.at 48 (by decide), h.at 50 (by decide), h.at 51 (by decide)]
theorem EQ36.fnumT (h : EQ36 mem mm) (p n : Int) : numT mm p n = numT mem p n := by
  unfold numT
  rw [h.fnearP, h.at 49 (by decide), h.at 52 (by decide)]
theorem EQ36.frightV (h : EQ36 mem mm) (p n : Int) : rightV mm p n = rightV mem p n := by
  unfold rightV
  rw [h.at 36 (by decide), h.at 37 (by decide), h.at 38 (by decide), h.at 45 (by decide), h.at 46 (by decide), h.at 48 (by decide), h.at 50 (by decide), h.at 53 (by decide)]
theorem EQ36.fkeptV (h : EQ36 mem mm) (p v : Int) : keptV mm p v = keptV mem p v := by
  unfold keptV
  rw [h.at 51 (by decide), h.at 53 (by decide)]
theorem EQ36.fboundV (h : EQ36 mem mm) (p n : Int) : boundV mm p n = boundV mem p n := by
  unfold boundV
  rw [h.at 49 (by decide), h.at 52 (by decide)]
theorem EQ36.fadN (h : EQ36 mem mm) (p q : Int) : ∀ k : Nat, adN mm p q k = adN mem p q k := by
  intro k
  induction k with
  | zero => rfl
  | succ k ih =>
    unfold adN cntS
    rw [ih, h.at 63 (by decide), h.at 64 (by decide), h.at 65 (by decide), h.at 66 (by decide), h.at 67 (by decide), h.at 68 (by decide)]
theorem EQ36.fadS (h : EQ36 mem mm) (h35 : mm 35 45 = mem 35 45) (p q : Int) : adS mm p q = adS mem p q := by
  unfold adS
  rw [h35, h.fadN]
theorem EQ36.fnumQ (h : EQ36 mem mm) (h35 : mm 35 45 = mem 35 45) (p n q : Int) : numQ mm p n q = numQ mem p n q := by
  unfold numQ
  rw [h.fnearP, h.fadS h35, h.at 49 (by decide), h.at 52 (by decide)]
theorem EQ36.fcolQ (h : EQ36 mem mm) (h35 : mm 35 45 = mem 35 45) (p n c q : Int) : colQ mm p n c q = colQ mem p n c q := by
  unfold colQ
  rw [h.fnearP, h.fadS h35, h.at 49 (by decide), h.at 52 (by decide)]
theorem EQ36.fSLS (h : EQ36 mem mm) (h45 : mm 35 45 = mem 35 45) (h33 : mm 35 33 = mem 35 33) (h0 : mm 35 0 = mem 35 0) (hs : SLS mem) : SLS mm := by
  unfold SLS SL
  rw [h45, h33, h0, h.at 63 (by decide), h.at 64 (by decide), h.at 65 (by decide), h.at 66 (by decide), h.at 67 (by decide), h.at 68 (by decide), h.at 47 (by decide), h.at 49 (by decide), h.at 52 (by decide)]
  exact hs
end EQS
theorem emod_bd (n m : Int) (hn : 0 ≤ n) (hm : 1 ≤ m) : 0 ≤ n % m ∧ n % m < m ∧ n % m ≤ n := ⟨Int.emod_nonneg n (by omega), Int.emod_lt_of_pos n (by omega), mod_le hn (by omega)⟩
theorem xof_bd {mem : Int → Int → Int} {p n : Int} (hp : PG mem p) (h0 : 0 ≤ n) (h1 : n < mem 47 p) : 1 ≤ mem 46 p + n * mem 48 p ∧ mem 46 p + n * mem 48 p ≤ 9999 := line_x (by omega) (by omega) hp.2.2.2.2.2.2.2.2.2.2.2.2.2.2.2.2.2.2 h0 h1
theorem ten6 {p : Int} (h : 0 ≤ p ∧ p ≤ 6) : 1 ≤ (10 : Int) ^ p.toNat ∧ (10 : Int) ^ p.toNat ≤ 1000000 := ten_bd h
section R5
variable {z : ZT} {l : Launch} {g : GP} {nL : Nat} {cells slots : Nat} {Q : State → Prop} {pc : Nat} {lo : List (Nat × AV)} {rest : List AV} {kd : Int → Nat} {ln : Int → Int} {mem : Int → Int → Int} {sz : Nat} {cc : ByteArray} {own : String} {R : Room}
theorem jldcw (hF : FX z l g nL cc own R) {index : Nat} (v : Int) (hm : Cond.constant own index (Int32.ofInt v) ∈ lw_tbl) (hd : decode cc pc = .ok (.ldc_w index, 3)) (kk : J z g nL cells slots Q (pc + 3) lo ((0, v) :: rest) kd ln mem sz) : J z g nL cells slots Q pc lo rest kd ln mem sz := by
  obtain ⟨p, l', e, R', s, m, args, below, meth, cd⟩ := z
  obtain ⟨hx, hb, hml, hown, hW, hG, -⟩ := hF
  exact fun ls H locs hl hR hq => lv_ldcw hx hb hown (hts_at hG hW hm rfl) hd (kk ls H locs hl hR hq)
end R5
end SPEC3
