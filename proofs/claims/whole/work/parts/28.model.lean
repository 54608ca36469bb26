section
theorem sumC_congr {cl cl' : Int → Int} (a : Int) : ∀ k : Nat, (∀ i : Int, a ≤ i → i < a + k → cl i = cl' i) → sumC cl a k = sumC cl' a k := by
  intro k
  induction k with
  | zero => intro _; rfl
  | succ k ih =>
    intro h
    unfold sumC
    rw [ih (fun i h1 h2 => h i h1 (by omega)), h _ (by omega) (by omega)]
theorem difF_congr {nm nm' : Int → Int} (n t : Int) : ∀ k : Nat, (∀ i : Int, n - k < i → i ≤ n → nm i = nm' i) → difF nm n t k = difF nm' n t k := by
  intro k
  induction k with
  | zero => intro _; rfl
  | succ k ih =>
    intro h
    unfold difF
    rw [ih (fun i h1 h2 => h i (by omega) h2), h _ (by omega) (by omega)]
theorem hldV_congr {mem : Int → Int → Int} {nm nm' cl cl' : Int → Int} {p n : Int} (hp : PG mem p) (h0 : 0 ≤ n) (hn : ∀ i : Int, 0 ≤ i → i ≤ n → nm i = nm' i) (hc : ∀ i : Int, 0 ≤ i → i ≤ n → mem 49 p < i % mem 52 p → cl i = cl' i) : hldV mem nm cl p n ↔ hldV mem nm' cl' p n := by
  have hq := emod_bd n (mem 52 p) (by omega) (by omega)
  by_cases hm : n % mem 52 p ≤ mem 49 p
  · unfold hldV
    rw [hn n h0 (Int.le_refl _)]
    split
    · exact ⟨fun _ => Or.inl hm, fun _ => Or.inl hm⟩
    · split
      · exact ⟨fun _ => Or.inl hm, fun _ => Or.inl hm⟩
      · exact Iff.rfl
  · have e1 := sumC_congr (cl := cl) (cl' := cl') (n - n % mem 52 p + mem 49 p + 1) (n % mem 52 p - mem 49 p).toNat (fun i h1 h2 => hc i (by omega) (by omega) (by
      have hi : i = (n - n % mem 52 p) + (i - (n - n % mem 52 p)) := by omega
      have hd : n - n % mem 52 p = mem 52 p * (n / mem 52 p) := by have := Int.mul_ediv_add_emod n (mem 52 p); omega
      rw [hi, hd, Int.mul_add_emod_self_left, ← hd, Int.emod_eq_of_lt (by omega) (by omega)]
      omega))
    have e2 := difF_congr (nm := nm) (nm' := nm') n (mem 49 p + 1) (mem 49 p + 1 + 1).toNat (fun i h1 h2 => hn i (by omega) h2)
    unfold hldV
    rw [hn n h0 (Int.le_refl _), hn (n - n % mem 52 p) (by omega) (by omega), hn (n - n % mem 52 p + mem 49 p) (by omega) (by omega), e1, e2]
/-- line n's check over the page with additions ad -/
abbrev hldA (mem : Int → Int → Int) (p : Int) (ad : Int → Int) (n : Int) : Prop := hldV mem (numF (nearP mem p) ad (mem 49 p) (mem 52 p)) (fun k => rowF (nearP mem p) ad (mem 49 p) (mem 52 p) k 1) p n
theorem EQ36.fhldV {mem mm : Int → Int → Int} (h : EQ36 mem mm) (nm cl : Int → Int) (p n : Int) : hldV mm nm cl p n ↔ hldV mem nm cl p n := by
  unfold hldV
  rw [h.at 56 (by decide), h.at 57 (by decide), h.at 52 (by decide), h.at 49 (by decide), h.fnearP]
theorem PD.hld {mem mm : Int → Int → Int} {p : Int} {ad : Int → Int} (hp : PG mem p) (h : PD mem mm p ad) {n : Int} (h0 : 0 ≤ n) (h1 : n < mem 47 p) : hldV mm (mm 61) (fun k => mm 60 (5 * k + 1)) p n ↔ hldA mem p ad n := by
  rw [h.1.e.fhldV]
  exact hldV_congr hp h0 (fun i h2 h3 => h.2.1 i h2 (by omega)) (fun i h2 h3 h4 => h.2.2 i 1 h2 (by omega) (by omega) (by omega) (by omega))
/-- how many of the first so many lines fail -/
def flN (mem : Int → Int → Int) (p : Int) (ad : Int → Int) : Nat → Int
  | 0 => 0
  | n + 1 => flN mem p ad n + (if hldA mem p ad n then 0 else 1)
def flM (mem : Int → Int → Int) (p : Int) : Nat → Int
  | 0 => 0
  | n + 1 => flM mem p n + (if hldV mem (mem 61) (fun k => mem 60 (5 * k + 1)) p n then 0 else 1)
theorem flM_bd (mem : Int → Int → Int) (p : Int) : ∀ k : Nat, 0 ≤ flM mem p k ∧ flM mem p k ≤ k := by
  intro k
  induction k with
  | zero => simp [flM]
  | succ k ih => unfold flM; split <;> omega
theorem PD.fl {mem mm : Int → Int → Int} {p : Int} {ad : Int → Int} (hp : PG mem p) (h : PD mem mm p ad) : ∀ k : Nat, (k : Int) ≤ mem 47 p → flM mm p k = flN mem p ad k := by
  intro k
  induction k with
  | zero => intro _; rfl
  | succ k ih =>
    intro hk
    unfold flM flN
    rw [ih (by omega)]
    congr 1
    have := h.hld hp (n := k) (by omega) (by omega)
    by_cases e : hldA mem p ad k
    · rw [if_pos e, if_pos (this.mpr e)]
    · rw [if_neg e, if_neg (fun q => e (this.mp q))]
theorem PD.fl' {mem mm : Int → Int → Int} {p : Int} {ad : Int → Int} (hp : PG mem p) (h : PD mem mm p ad) : flM mm p (mm 47 p).toNat = flN mem p ad (mem 47 p).toNat := by
  rw [h.1.e.at 47 (by decide)]
  exact h.fl hp _ (by omega)
def oneA (i v : Int) : Int → Int := fun j => if j = i then v else 0
/-- a cleared row with one addition -/
theorem PD.one {mem m0 m1 mm : Int → Int → Int} {p i v : Int} (hp : PG mem p) (h0 : FR mem m0) (hcl : (∀ a j : Int, a ≠ 59 → m1 a j = m0 a j) ∧ ∀ j : Int, 0 ≤ j → j < 200 → m1 59 j = 0) (h : MK (set2 m1 59 i v) mm (nearP (set2 m1 59 i v) p) ((set2 m1 59 i v) 49 p) ((set2 m1 59 i v) 52 p) ((set2 m1 59 i v) 47 p)) : PD mem mm p (oneA i v) := by
  refine PD.of hp (fun a j q1 q2 q3 q4 => ?_) (fun k h1 h2 => ?_) h
  · rw [s2_a q1, hcl.1 a j q1]
    exact h0 a j q1 q2 q3 q4
  · unfold oneA
    by_cases e : k = i
    · rw [e, s2_s, if_pos rfl]
    · rw [s2_k e, if_neg e]
      exact hcl.2 k h1 h2
/-- rows of pages and slips are the same -/
def EQ69 (mem mm : Int → Int → Int) : Prop := ∀ a j : Int, 36 ≤ a → a ≤ 68 → a ≠ 59 → a ≠ 60 → a ≠ 61 → a ≠ 62 → mm a j = mem a j
theorem EQ69.to {mem mm : Int → Int → Int} (h : EQ69 mem mm) : EQ36 mem (fun a j => if a ≤ 68 then mm a j else mem a j) := fun a j h1 h2 h3 h4 h5 => by
  show (if a ≤ 68 then mm a j else mem a j) = _
  split
  · exact h a j h1 (by assumption) h2 h3 h4 h5
  · rfl
theorem EQ69.at {mem mm : Int → Int → Int} (h : EQ69 mem mm) (a : Int) (ha : 36 ≤ a ∧ a ≤ 68 ∧ a ≠ 59 ∧ a ≠ 60 ∧ a ≠ 61 ∧ a ≠ 62) : mm a = mem a := funext fun j => h a j ha.1 ha.2.1 ha.2.2.1 ha.2.2.2.1 ha.2.2.2.2.1 ha.2.2.2.2.2
theorem EQ36.s {mem mm : Int → Int → Int} (h : EQ36 mem mm) : EQ69 mem mm := fun a j h1 _ => h a j h1
theorem EQ69.tr {a b c : Int → Int → Int} (h1 : EQ69 a b) (h2 : EQ69 b c) : EQ69 a c := fun x j q q1 q2 q3 q4 q5 => (h2 x j q q1 q2 q3 q4 q5).trans (h1 x j q q1 q2 q3 q4 q5)
section E69
variable {mem mm : Int → Int → Int}
theorem EQ69.fPG (h : EQ69 mem mm) {p : Int} (hp : PG mem p) : PG mm p := h.to.fPG hp
theorem EQ69.fPGS (h : EQ69 mem mm) (h35 : mm 35 33 = mem 35 33) (hp : PGS mem) : PGS mm := h.to.fPGS (mm := fun a j => if a ≤ 68 then mm a j else mem a j) h35 hp
theorem EQ69.fnearP (h : EQ69 mem mm) (p : Int) : nearP mm p = nearP mem p := h.to.fnearP p
theorem EQ69.fnumT (h : EQ69 mem mm) (p n : Int) : numT mm p n = numT mem p n := h.to.fnumT p n
theorem EQ69.fadS (h : EQ69 mem mm) (h35 : mm 35 45 = mem 35 45) (p q : Int) : adS mm p q = adS mem p q := by
  unfold adS
  rw [h35]
  have : ∀ k : Nat, adN mm p q k = adN mem p q k := by
    intro k
    induction k with
    | zero => rfl
    | succ k ih =>
      unfold adN cntS
      rw [ih, h.at 63 (by decide), h.at 64 (by decide), h.at 65 (by decide), h.at 66 (by decide), h.at 67 (by decide), h.at 68 (by decide)]
  exact this _
theorem EQ69.fnumQ (h : EQ69 mem mm) (h35 : mm 35 45 = mem 35 45) (p n q : Int) : numQ mm p n q = numQ mem p n q := by
  unfold numQ
  rw [h.fnearP, h.fadS h35, h.at 49 (by decide), h.at 52 (by decide)]
theorem EQ69.fSLS (h : EQ69 mem mm) (h45 : mm 35 45 = mem 35 45) (h33 : mm 35 33 = mem 35 33) (h0 : mm 35 0 = mem 35 0) (hs : SLS mem) : SLS mm := h.to.fSLS (mm := fun a j => if a ≤ 68 then mm a j else mem a j) h45 h33 h0 hs
theorem EQ69.fCHK (h : EQ69 mem mm) (hc : CHK mem) : CHK mm := h.to.fCHK (mm := fun a j => if a ≤ 68 then mm a j else mem a j) hc
end E69
/-- rows of figures and of the truth have changed -/
def FT (mem mm : Int → Int → Int) : Prop := ∀ a j : Int, a ≠ 59 → a ≠ 60 → a ≠ 61 → a ≠ 62 → a ≠ 69 → mm a j = mem a j
theorem FR.t {mem mm : Int → Int → Int} (h : FR mem mm) : FT mem mm := fun a j h1 h2 h3 h4 _ => h a j h1 h2 h3 h4
theorem FT.rf {mem : Int → Int → Int} : FT mem mem := fun _ _ _ _ _ _ _ => rfl
theorem FT.tr {a b c : Int → Int → Int} (h1 : FT a b) (h2 : FT b c) : FT a c := fun x j q q1 q2 q3 q4 => (h2 x j q q1 q2 q3 q4).trans (h1 x j q q1 q2 q3 q4)
theorem FT.e {mem mm : Int → Int → Int} (h : FT mem mm) : EQ69 mem mm := fun a j _ h1 h2 h3 h4 h5 => h a j h2 h3 h4 h5 (by omega)
/-- unseen, healed, spread -/
def unN (mem : Int → Int → Int) (p q : Int) : Nat → Int
  | 0 => 0
  | s + 1 => unN mem p q s + (if mem 63 s = p ∧ cntS mem s q ∧ flN mem p (oneA (5 * mem 64 s + slotV (mem 65 s)) (mem 66 s)) (mem 47 p).toNat = 0 then 1 else 0)
theorem unN_bd (mem : Int → Int → Int) (p q : Int) : ∀ k : Nat, 0 ≤ unN mem p q k ∧ unN mem p q k ≤ k := by
  intro k
  induction k with
  | zero => simp [unN]
  | succ k ih => unfold unN; split <;> omega
def sxN (mem : Int → Int → Int) (p q n v : Int) : Nat → Int
  | 0 => v
  | s + 1 => if sxN mem p q n v s ≠ 0 ∨ (mem 63 s = p ∧ mem 64 s = n ∧ cntS mem s q) then 1 else 0
def hxN (mem : Int → Int → Int) (p q : Int) : Nat → Int
  | 0 => 0
  | n + 1 => sxN mem p q n (if hxN mem p q n ≠ 0 ∧ (n : Int) % mem 52 p > 0 then 1 else 0) (mem 35 45).toNat
def heN (mem : Int → Int → Int) (p q : Int) : Nat → Int
  | 0 => 0
  | n + 1 => heN mem p q n + (if hxN mem p q (n + 1) ≠ 0 ∧ (n : Int) % mem 52 p > mem 49 p ∧ wL (numQ mem p n q) = wL (numT mem p n) then 1 else 0)
theorem heN_bd (mem : Int → Int → Int) (p q : Int) : ∀ k : Nat, 0 ≤ heN mem p q k ∧ heN mem p q k ≤ k := by
  intro k
  induction k with
  | zero => simp [heN]
  | succ k ih => unfold heN; split <;> omega
def spN (mem : Int → Int → Int) (p : Int) (ad : Int → Int) : Nat → Int
  | 0 => 0
  | n + 1 => spN mem p ad n + (if wL (numF (nearP mem p) ad (mem 49 p) (mem 52 p) n) ≠ wL (numT mem p n) then 1 else 0)
theorem spN_bd (mem : Int → Int → Int) (p : Int) (ad : Int → Int) : ∀ k : Nat, 0 ≤ spN mem p ad k ∧ spN mem p ad k ≤ k := by
  intro k
  induction k with
  | zero => simp [spN]
  | succ k ih => unfold spN; split <;> omega
set_option maxHeartbeats 4000000 in
set_option maxRecDepth 100000 in
theorem c_X12_failing {l : Launch} {g : GP} (hG : GH g) {kd : Int → Nat} {ln : Int → Int} {mem : Int → Int → Int} {sz : Nat} (hS : SK kd ln) (hR : SR mem) (p : Int) (hp : PG mem p) (hCH : CHK mem) : MT l g yX12_failing cX12_failing 4 (some .int) 5 0 0 [(2, 35), (0, p)] kd ln mem sz (pV (0, flM mem p (mem 47 p).toNat) kd ln mem sz) := by
  refine MT_of hG (by decide +kernel) (Nat.le_of_ble_eq_true rfl) (fun z hF hr hn => ?_)
  refine jblk hF [(.iconst 0, 1), (.istore_n 2, 1), (.iconst 0, 1), (.istore_n 3, 1)] (by decide +kernel) (pc' := 4) (lo' := [(3, (0, 0)), (2, (0, 0)), (0, (2, 35)), (1, (0, p))]) (st' := []) rfl ?_
  have L_2 : ∀ (fu_3 : Nat) (k : Int) (n : Int), (0 ≤ n ∧ n ≤ mem 47 p) → (k = flM mem p n.toNat) →  (mem 47 p - n).toNat < fu_3 → J z g 4 0 0 (QM z g 0 0 (pV (0, flM mem p (mem 47 p).toNat) kd ln mem sz)) 4 [(0, (2, 35)), (1, (0, p)), (2, (0, k)), (3, (0, n))] [] kd ln mem sz := by
    intro fu_3
    induction fu_3 with
    | zero => intro k n _ _ hm; omega
    | succ fu_3 ih_1 =>
      intro k n hn1 hk hm
      have hb := flM_bd mem p n.toNat
      refine jblk hF [(.iload_n 3, 1), (.aload_n 0, 1)] (by decide +kernel) (pc' := 6) (lo' := [(0, (2, 35)), (1, (0, p)), (2, (0, k)), (3, (0, n))]) (st' := [(2, 35), (0, n)]) rfl ?_
      refine jget hF 13 22 2 22 rfl (by decide) (by decide) rfl wd_1485 (by decide +kernel) (by exact hS.k35) ?_
      rw [SR.r22 hR]
      refine jblk hF [(.iload_n 1, 1)] (by decide +kernel) (pc' := 10) (lo' := [(0, (2, 35)), (1, (0, p)), (2, (0, k)), (3, (0, n))]) (st' := [(0, p), (2, 47), (0, n)]) rfl ?_
      refine jiald hF (by decide +kernel) (by exact hS.k47) (by omega) (by have := hS.l47; omega) ?_
      refine jicmp_ge hF (off := 26) 37 (by decide +kernel) (by decide) (by omega) (by omega) (fun h_4 => ?_) (fun h_4 => ?_)
      · refine jblk hF [(.iload_n 2, 1)] (by decide +kernel) (pc' := 38) (lo' := [(0, (2, 35)), (1, (0, p)), (2, (0, k)), (3, (0, n))]) (st' := [(0, k)]) rfl ?_
        refine jiret hF hr (by decide +kernel) ?_
        exact lV (by rw [hk]; congr 1; omega)
      · refine jblk hF [(.iload_n 2, 1), (.aload_n 0, 1), (.iload_n 1, 1), (.iload_n 3, 1)] (by decide +kernel) (pc' := 18) (lo' := [(0, (2, 35)), (1, (0, p)), (2, (0, k)), (3, (0, n))]) (st' := [(0, n), (0, p), (2, 35), (0, k)]) rfl ?_
        refine jcallV hF (c_X12_holds hG hS hR p n (by first | omega | exact hp9 | exact hE.fPG hp | exact (EQ36.f _ _).fPG hp) (by first | omega | (rw [hE.at 47 (by decide)]; omega) | (rw [(EQ36.f 1 0 : EQ36 mem _).at 47 (by decide)]; omega)) (by first | exact hCH | exact hE.fCHK hCH | exact (EQ36.f _ _).fCHK hCH)) MW_X12_holds 13 (by decide) (by exact hS.k35) wd_2072 wd_2074 wd_p91 (by decide +kernel) [(0, k)] rfl rfl (by decide) (Nat.le_of_ble_eq_true rfl) (by decide) (kB (fun h_5 => ?_) (fun h_5 => ?_))
        · refine jif_eq hF (off := 7) 28 (by decide +kernel) (by decide) (by decide) (fun h => absurd h (by decide)) (fun _ => ?_)
          refine jblk hF [(.iconst 0, 1)] (by decide +kernel) (pc' := 25) (lo' := [(0, (2, 35)), (1, (0, p)), (2, (0, k)), (3, (0, n))]) (st' := [(0, 0), (0, k)]) rfl ?_
          refine jgoto hF (off := 4) 29 (by decide +kernel) (by decide) ?_
          refine jblk hF [(.iadd, 1), (.istore_n 2, 1), (.iinc 3 1, 3)] (by decide +kernel) (pc' := 34) (lo' := [(3, (0, n + 1)), (2, (0, k + 0)), (0, (2, 35)), (1, (0, p))]) (st' := []) rfl ?_
          refine jgoto hF (off := (-30)) 4 (by decide +kernel) (by decide) ?_
          refine jsub [2, 3, 1, 0] rfl ?_
          refine ih_1 (k + 0) (n + 1) ?_ ?_ ?_
          · omega
          · rw [show (n + 1).toNat = n.toNat + 1 by omega, flM, show ((n.toNat : Nat) : Int) = n by omega]; first | (rw [if_pos (by assumption)]; omega) | (rw [if_neg (by assumption)]; omega)
          · omega
        · refine jif_eq hF (off := 7) 28 (by decide +kernel) (by decide) (by decide) (fun _ => ?_) (fun h => absurd h (by decide))
          refine jblk hF [(.iconst 1, 1), (.iadd, 1), (.istore_n 2, 1), (.iinc 3 1, 3)] (by decide +kernel) (pc' := 34) (lo' := [(3, (0, n + 1)), (2, (0, k + 1)), (0, (2, 35)), (1, (0, p))]) (st' := []) rfl ?_
          refine jgoto hF (off := (-30)) 4 (by decide +kernel) (by decide) ?_
          refine jsub [2, 3, 1, 0] rfl ?_
          refine ih_1 (k + 1) (n + 1) ?_ ?_ ?_
          · omega
          · rw [show (n + 1).toNat = n.toNat + 1 by omega, flM, show ((n.toNat : Nat) : Int) = n by omega]; first | (rw [if_pos (by assumption)]; omega) | (rw [if_neg (by assumption)]; omega)
          · omega
  refine jsub [2, 3, 1, 0] rfl ?_
  refine L_2 _ 0 0 ?_ ?_ (Nat.lt_succ_self _)
  · omega
  · rfl
set_option maxHeartbeats 4000000 in
set_option maxRecDepth 100000 in
theorem c_X12_check {l : Launch} {g : GP} (hG : GH g) {kd : Int → Nat} {ln : Int → Int} {mem : Int → Int → Int} {sz : Nat} (hS : SK kd ln) (hR : SR mem) (p n q : Int) (h_p : InI p) (h_n : InI n) (h_q : InI q) (hPS : PGS mem) (hSL : SLS mem) (h0 : 0 ≤ mem 35 0 ∧ mem 35 0 ≤ 1000) (hCH : CHK mem) : MT l g yX12_check cX12_check 4 (some .int) 6 0 0 [(2, 35), (0, p), (0, n), (0, q)] kd ln mem sz (pMR 0 (fun v mem' => SR mem' ∧ (((isLn mem p n ∧ isKn mem q) → v = (if hldA mem p (adS mem p q) n then 1 else 0) ∧ FR mem mem') ∧ (¬ (isLn mem p n ∧ isKn mem q) → v = -1 ∧ mem' = mem))) kd ln sz) := by
  refine MT_of hG (by decide +kernel) (Nat.le_of_ble_eq_true rfl) (fun z hF hr hn => ?_)
  refine jblk hF [(.aload_n 0, 1), (.iload_n 1, 1), (.iload_n 2, 1)] (by decide +kernel) (pc' := 3) (lo' := [(0, (2, 35)), (1, (0, p)), (2, (0, n)), (3, (0, q))]) (st' := [(0, n), (0, p), (2, 35)]) rfl ?_
  refine jcallV hF (c_X12_isLine hG hS hR p n (by omega) (by omega) (by exact hPS)) MW_X12_isLine 13 (by decide) (by exact hS.k35) wd_1954 wd_1956 wd_p76 (by decide +kernel) [] rfl rfl (by decide) (Nat.le_of_ble_eq_true rfl) (by decide) (kB (fun h_1 => ?_) (fun h_1 => ?_))
  · refine jif_eq hF (off := 11) 17 (by decide +kernel) (by decide) (by decide) (fun h => absurd h (by decide)) (fun _ => ?_)
    have hp := hPS.2.2 p (by omega) (by omega)
    refine jblk hF [(.aload_n 0, 1), (.iload_n 3, 1)] (by decide +kernel) (pc' := 11) (lo' := [(0, (2, 35)), (1, (0, p)), (2, (0, n)), (3, (0, q))]) (st' := [(0, q), (2, 35)]) rfl ?_
    refine jcallV hF (c_X12_isKnowing hG hS hR q (by omega) (by omega)) MW_X12_isKnowing 13 (by decide) (by exact hS.k35) wd_2004 wd_2006 wd_p84 (by decide +kernel) [] rfl rfl (by decide) (Nat.le_of_ble_eq_true rfl) (by decide) (kB (fun h_3 => ?_) (fun h_3 => ?_))
    · refine jif_ne hF (off := 5) 19 (by decide +kernel) (by decide) (by decide) (fun _ => ?_) (fun h => absurd h (by decide))
      refine jblk hF [(.aload_n 0, 1), (.iload_n 1, 1), (.iload_n 3, 1)] (by decide +kernel) (pc' := 22) (lo' := [(0, (2, 35)), (1, (0, p)), (2, (0, n)), (3, (0, q))]) (st' := [(0, q), (0, p), (2, 35)]) rfl ?_
      refine jcallV hF (c_X12_makeAs hG hS hR p q (by first | omega | exact hE.fPG hp | exact (EQ36.f _ _).fPG hp) (by first | exact hSL | exact (EQ36.f _ _).fSLS (s2_k (by decide)) (s2_k (by decide)) (s2_k (by decide)) hSL) (by first | omega | (rw [show (set2 mem 35 1 0) 35 33 = mem 35 33 from s2_k (by decide)]; omega) | (rw [show (set2 mem 35 1 0) 35 0 = mem 35 0 from s2_k (by decide)]; omega)) (by omega) (by first | omega | (rw [show (set2 mem 35 1 0) 35 33 = mem 35 33 from s2_k (by decide)]; omega) | (rw [show (set2 mem 35 1 0) 35 0 = mem 35 0 from s2_k (by decide)]; omega))) MW_X12_makeAs 13 (by decide) (by exact hS.k35) wd_2008 wd_2010 wd_p85 (by decide +kernel) [] rfl rfl (by decide) (Nat.le_of_ble_eq_true rfl) (by decide) (kMV (fun m_5 h_6 => ?_))
      obtain ⟨hR_m_5, h_6⟩ := h_6
      have hK := h_6
      have hE : EQ36 mem m_5 := hK.1.e
      have hh := hK.hld hp (n := n) (by omega) (by omega)
      refine jblk hF [(.aload_n 0, 1), (.iload_n 1, 1), (.iload_n 2, 1)] (by decide +kernel) (pc' := 28) (lo' := [(0, (2, 35)), (1, (0, p)), (2, (0, n)), (3, (0, q))]) (st' := [(0, n), (0, p), (2, 35)]) rfl ?_
      refine jcallV hF (c_X12_holds hG hS hR_m_5 p n (by first | omega | exact hp9 | exact hE.fPG hp | exact (EQ36.f _ _).fPG hp) (by first | omega | (rw [hE.at 47 (by decide)]; omega) | (rw [(EQ36.f 1 0 : EQ36 mem _).at 47 (by decide)]; omega)) (by first | exact hCH | exact hE.fCHK hCH | exact (EQ36.f _ _).fCHK hCH)) MW_X12_holds 13 (by decide) (by exact hS.k35) wd_2072 wd_2074 wd_p91 (by decide +kernel) [] rfl rfl (by decide) (Nat.le_of_ble_eq_true rfl) (by decide) (kB (fun h_7 => ?_) (fun h_7 => ?_))
      · refine jif_eq hF (off := 7) 38 (by decide +kernel) (by decide) (by decide) (fun h => absurd h (by decide)) (fun _ => ?_)
        refine jblk hF [(.iconst 1, 1)] (by decide +kernel) (pc' := 35) (lo' := [(0, (2, 35)), (1, (0, p)), (2, (0, n)), (3, (0, q))]) (st' := [(0, 1)]) rfl ?_
        refine jgoto hF (off := 4) 39 (by decide +kernel) (by decide) ?_
        refine jiret hF hr (by decide +kernel) ?_
        exact lMR ⟨hR_m_5, by first | exact ⟨fun h => absurd h (by omega), fun _ => ⟨rfl, rfl⟩⟩ | exact ⟨fun _ => ⟨(if_pos (hh.mp (by assumption))).symm, hK.1⟩, fun h => absurd (by omega) h⟩ | exact ⟨fun _ => ⟨(if_neg (fun q9 => absurd (hh.mpr q9) (by assumption))).symm, hK.1⟩, fun h => absurd (by omega) h⟩⟩
      · refine jif_eq hF (off := 7) 38 (by decide +kernel) (by decide) (by decide) (fun _ => ?_) (fun h => absurd h (by decide))
        refine jblk hF [(.iconst 0, 1)] (by decide +kernel) (pc' := 39) (lo' := [(0, (2, 35)), (1, (0, p)), (2, (0, n)), (3, (0, q))]) (st' := [(0, 0)]) rfl ?_
        refine jiret hF hr (by decide +kernel) ?_
        exact lMR ⟨hR_m_5, by first | exact ⟨fun h => absurd h (by omega), fun _ => ⟨rfl, rfl⟩⟩ | exact ⟨fun _ => ⟨(if_pos (hh.mp (by assumption))).symm, hK.1⟩, fun h => absurd (by omega) h⟩ | exact ⟨fun _ => ⟨(if_neg (fun q9 => absurd (hh.mpr q9) (by assumption))).symm, hK.1⟩, fun h => absurd (by omega) h⟩⟩
    · refine jif_ne hF (off := 5) 19 (by decide +kernel) (by decide) (by decide) (fun h => absurd h (by decide)) (fun _ => ?_)
      refine jblk hF [(.iconst (-1), 1)] (by decide +kernel) (pc' := 18) (lo' := [(0, (2, 35)), (1, (0, p)), (2, (0, n)), (3, (0, q))]) (st' := [(0, (-1))]) rfl ?_
      refine jiret hF hr (by decide +kernel) ?_
      exact lMR ⟨hR, by first | exact ⟨fun h => absurd h (by omega), fun _ => ⟨rfl, rfl⟩⟩ | exact ⟨fun _ => ⟨(if_pos (hh.mp (by assumption))).symm, hK.1⟩, fun h => absurd (by omega) h⟩ | exact ⟨fun _ => ⟨(if_neg (fun q9 => absurd (hh.mpr q9) (by assumption))).symm, hK.1⟩, fun h => absurd (by omega) h⟩⟩
  · refine jif_eq hF (off := 11) 17 (by decide +kernel) (by decide) (by decide) (fun _ => ?_) (fun h => absurd h (by decide))
    refine jblk hF [(.iconst (-1), 1)] (by decide +kernel) (pc' := 18) (lo' := [(0, (2, 35)), (1, (0, p)), (2, (0, n)), (3, (0, q))]) (st' := [(0, (-1))]) rfl ?_
    refine jiret hF hr (by decide +kernel) ?_
    exact lMR ⟨hR, by first | exact ⟨fun h => absurd h (by omega), fun _ => ⟨rfl, rfl⟩⟩ | exact ⟨fun _ => ⟨(if_pos (hh.mp (by assumption))).symm, hK.1⟩, fun h => absurd (by omega) h⟩ | exact ⟨fun _ => ⟨(if_neg (fun q9 => absurd (hh.mpr q9) (by assumption))).symm, hK.1⟩, fun h => absurd (by omega) h⟩⟩
set_option maxHeartbeats 4000000 in
set_option maxRecDepth 100000 in
theorem c_X12_fails {l : Launch} {g : GP} (hG : GH g) {kd : Int → Nat} {ln : Int → Int} {mem : Int → Int → Int} {sz : Nat} (hS : SK kd ln) (hR : SR mem) (p q : Int) (h_p : InI p) (h_q : InI q) (hPS : PGS mem) (hSL : SLS mem) (h0 : 0 ≤ mem 35 0 ∧ mem 35 0 ≤ 1000) (hCH : CHK mem) : MT l g yX12_fails cX12_fails 3 (some .int) 6 0 0 [(2, 35), (0, p), (0, q)] kd ln mem sz (pMR 0 (fun v mem' => SR mem' ∧ (((isPg mem p ∧ isKn mem q) → v = flN mem p (adS mem p q) (mem 47 p).toNat ∧ FR mem mem') ∧ (¬ (isPg mem p ∧ isKn mem q) → v = -1 ∧ mem' = mem))) kd ln sz) := by
  refine MT_of hG (by decide +kernel) (Nat.le_of_ble_eq_true rfl) (fun z hF hr hn => ?_)
  refine jblk hF [(.aload_n 0, 1), (.iload_n 1, 1)] (by decide +kernel) (pc' := 2) (lo' := [(0, (2, 35)), (1, (0, p)), (2, (0, q))]) (st' := [(0, p), (2, 35)]) rfl ?_
  refine jcallV hF (c_X12_isPage hG hS hR p (by omega) (by omega)) MW_X12_isPage 13 (by decide) (by exact hS.k35) wd_1930 wd_1932 wd_p71 (by decide +kernel) [] rfl rfl (by decide) (Nat.le_of_ble_eq_true rfl) (by decide) (kB (fun h_1 => ?_) (fun h_1 => ?_))
  · refine jif_eq hF (off := 11) 16 (by decide +kernel) (by decide) (by decide) (fun h => absurd h (by decide)) (fun _ => ?_)
    have hp := hPS.2.2 p (by omega) (by omega)
    refine jblk hF [(.aload_n 0, 1), (.iload_n 2, 1)] (by decide +kernel) (pc' := 10) (lo' := [(0, (2, 35)), (1, (0, p)), (2, (0, q))]) (st' := [(0, q), (2, 35)]) rfl ?_
    refine jcallV hF (c_X12_isKnowing hG hS hR q (by omega) (by omega)) MW_X12_isKnowing 13 (by decide) (by exact hS.k35) wd_2004 wd_2006 wd_p84 (by decide +kernel) [] rfl rfl (by decide) (Nat.le_of_ble_eq_true rfl) (by decide) (kB (fun h_3 => ?_) (fun h_3 => ?_))
    · refine jif_ne hF (off := 5) 18 (by decide +kernel) (by decide) (by decide) (fun _ => ?_) (fun h => absurd h (by decide))
      refine jblk hF [(.aload_n 0, 1), (.iload_n 1, 1), (.iload_n 2, 1)] (by decide +kernel) (pc' := 21) (lo' := [(0, (2, 35)), (1, (0, p)), (2, (0, q))]) (st' := [(0, q), (0, p), (2, 35)]) rfl ?_
      refine jcallV hF (c_X12_makeAs hG hS hR p q (by first | omega | exact hE.fPG hp | exact (EQ36.f _ _).fPG hp) (by first | exact hSL | exact (EQ36.f _ _).fSLS (s2_k (by decide)) (s2_k (by decide)) (s2_k (by decide)) hSL) (by first | omega | (rw [show (set2 mem 35 1 0) 35 33 = mem 35 33 from s2_k (by decide)]; omega) | (rw [show (set2 mem 35 1 0) 35 0 = mem 35 0 from s2_k (by decide)]; omega)) (by omega) (by first | omega | (rw [show (set2 mem 35 1 0) 35 33 = mem 35 33 from s2_k (by decide)]; omega) | (rw [show (set2 mem 35 1 0) 35 0 = mem 35 0 from s2_k (by decide)]; omega))) MW_X12_makeAs 13 (by decide) (by exact hS.k35) wd_2008 wd_2010 wd_p85 (by decide +kernel) [] rfl rfl (by decide) (Nat.le_of_ble_eq_true rfl) (by decide) (kMV (fun m_5 h_6 => ?_))
      obtain ⟨hR_m_5, h_6⟩ := h_6
      have hK := h_6
      have hE : EQ36 mem m_5 := hK.1.e
      refine jblk hF [(.aload_n 0, 1), (.iload_n 1, 1)] (by decide +kernel) (pc' := 26) (lo' := [(0, (2, 35)), (1, (0, p)), (2, (0, q))]) (st' := [(0, p), (2, 35)]) rfl ?_
      refine jcallV hF (c_X12_failing hG hS hR_m_5 p (by first | omega | exact hp9 | exact hE.fPG hp) (by first | exact hCH | exact hE.fCHK hCH | exact (EQ36.f _ _).fCHK hCH)) MW_X12_failing 13 (by decide) (by exact hS.k35) wd_2084 wd_2086 wd_p93 (by decide +kernel) [] rfl rfl (by decide) (Nat.le_of_ble_eq_true rfl) (by decide) (kV ?_)
      have hf_7 := flM_bd m_5 p (m_5 47 p).toNat
      refine jiret hF hr (by decide +kernel) ?_
      exact lMR ⟨hR_m_5, by first | exact ⟨fun h => absurd h (by omega), fun _ => ⟨rfl, rfl⟩⟩ | exact ⟨fun _ => ⟨hK.fl' hp, hK.1⟩, fun h => absurd (by omega) h⟩⟩
    · refine jif_ne hF (off := 5) 18 (by decide +kernel) (by decide) (by decide) (fun h => absurd h (by decide)) (fun _ => ?_)
      refine jblk hF [(.iconst (-1), 1)] (by decide +kernel) (pc' := 17) (lo' := [(0, (2, 35)), (1, (0, p)), (2, (0, q))]) (st' := [(0, (-1))]) rfl ?_
      refine jiret hF hr (by decide +kernel) ?_
      exact lMR ⟨hR, by first | exact ⟨fun h => absurd h (by omega), fun _ => ⟨rfl, rfl⟩⟩ | exact ⟨fun _ => ⟨hK.fl' hp, hK.1⟩, fun h => absurd (by omega) h⟩⟩
  · refine jif_eq hF (off := 11) 16 (by decide +kernel) (by decide) (by decide) (fun _ => ?_) (fun h => absurd h (by decide))
    refine jblk hF [(.iconst (-1), 1)] (by decide +kernel) (pc' := 17) (lo' := [(0, (2, 35)), (1, (0, p)), (2, (0, q))]) (st' := [(0, (-1))]) rfl ?_
    refine jiret hF hr (by decide +kernel) ?_
    exact lMR ⟨hR, by first | exact ⟨fun h => absurd h (by omega), fun _ => ⟨rfl, rfl⟩⟩ | exact ⟨fun _ => ⟨hK.fl' hp, hK.1⟩, fun h => absurd (by omega) h⟩⟩
set_option maxHeartbeats 4000000 in
set_option maxRecDepth 100000 in
theorem c_X12_kind {l : Launch} {g : GP} (hG : GH g) {kd : Int → Nat} {ln : Int → Int} {mem : Int → Int → Int} {sz : Nat} (hS : SK kd ln) (hR : SR mem) (p n q : Int) (h_p : InI p) (h_n : InI n) (h_q : InI q) (hPS : PGS mem) (hSL : SLS mem) (h0 : 0 ≤ mem 35 0 ∧ mem 35 0 ≤ 1000) (hCH : CHK mem) : MT l g yX12_kind cX12_kind 5 (some .int) 6 0 0 [(2, 35), (0, p), (0, n), (0, q)] kd ln mem sz (pMR 0 (fun v mem' => SR mem' ∧ (((isLn mem p n ∧ isKn mem q) → FR mem mem' ∧ ((∃ s : Int, 0 ≤ s ∧ s ≤ mem 35 45 - 1 ∧ mem 63 s = p ∧ mem 64 s = n ∧ mem 68 s ≠ -1 ∧ mem 68 s ≤ q) → v = 2) ∧ (¬ (∃ s : Int, 0 ≤ s ∧ s ≤ mem 35 45 - 1 ∧ mem 63 s = p ∧ mem 64 s = n ∧ mem 68 s ≠ -1 ∧ mem 68 s ≤ q) → ((∃ k : Int, n ≤ k ∧ k ≤ mem 47 p - 1 ∧ k ≤ n + mem 49 p + 1 ∧ k / mem 52 p = n / mem 52 p ∧ ¬ hldA mem p (adS mem p q) k) → v = 3) ∧ (¬ (∃ k : Int, n ≤ k ∧ k ≤ mem 47 p - 1 ∧ k ≤ n + mem 49 p + 1 ∧ k / mem 52 p = n / mem 52 p ∧ ¬ hldA mem p (adS mem p q) k) → v = (if n % mem 52 p > mem 49 p then 1 else 0)))) ∧ (¬ (isLn mem p n ∧ isKn mem q) → v = -1 ∧ mem' = mem))) kd ln sz) := by
  refine MT_of hG (by decide +kernel) (Nat.le_of_ble_eq_true rfl) (fun z hF hr hn => ?_)
  refine jblk hF [(.aload_n 0, 1), (.iload_n 1, 1), (.iload_n 2, 1)] (by decide +kernel) (pc' := 3) (lo' := [(0, (2, 35)), (1, (0, p)), (2, (0, n)), (3, (0, q))]) (st' := [(0, n), (0, p), (2, 35)]) rfl ?_
  refine jcallV hF (c_X12_isLine hG hS hR p n (by omega) (by omega) (by exact hPS)) MW_X12_isLine 13 (by decide) (by exact hS.k35) wd_1954 wd_1956 wd_p76 (by decide +kernel) [] rfl rfl (by decide) (Nat.le_of_ble_eq_true rfl) (by decide) (kB (fun h_1 => ?_) (fun h_1 => ?_))
  · refine jif_eq hF (off := 11) 17 (by decide +kernel) (by decide) (by decide) (fun h => absurd h (by decide)) (fun _ => ?_)
    have hp := hPS.2.2 p (by omega) (by omega)
    refine jblk hF [(.aload_n 0, 1), (.iload_n 3, 1)] (by decide +kernel) (pc' := 11) (lo' := [(0, (2, 35)), (1, (0, p)), (2, (0, n)), (3, (0, q))]) (st' := [(0, q), (2, 35)]) rfl ?_
    refine jcallV hF (c_X12_isKnowing hG hS hR q (by omega) (by omega)) MW_X12_isKnowing 13 (by decide) (by exact hS.k35) wd_2004 wd_2006 wd_p84 (by decide +kernel) [] rfl rfl (by decide) (Nat.le_of_ble_eq_true rfl) (by decide) (kB (fun h_3 => ?_) (fun h_3 => ?_))
    · refine jif_ne hF (off := 5) 19 (by decide +kernel) (by decide) (by decide) (fun _ => ?_) (fun h => absurd h (by decide))
      refine jblk hF [(.iconst 0, 1), (.istore 4, 2)] (by decide +kernel) (pc' := 22) (lo' := [(4, (0, 0)), (0, (2, 35)), (1, (0, p)), (2, (0, n)), (3, (0, q))]) (st' := []) rfl ?_
      have L_6 : ∀ (fu_7 : Nat) (s : Int), (0 ≤ s ∧ s ≤ mem 35 45) → (∀ i : Int, 0 ≤ i → i < s → ¬ (mem 63 i = p ∧ mem 64 i = n ∧ mem 68 i ≠ -1 ∧ mem 68 i ≤ q)) →  (mem 35 45 - s).toNat < fu_7 → J z g 5 0 0 (QM z g 0 0 (pMR 0 (fun v mem' => SR mem' ∧ (((isLn mem p n ∧ isKn mem q) → FR mem mem' ∧ ((∃ s : Int, 0 ≤ s ∧ s ≤ mem 35 45 - 1 ∧ mem 63 s = p ∧ mem 64 s = n ∧ mem 68 s ≠ -1 ∧ mem 68 s ≤ q) → v = 2) ∧ (¬ (∃ s : Int, 0 ≤ s ∧ s ≤ mem 35 45 - 1 ∧ mem 63 s = p ∧ mem 64 s = n ∧ mem 68 s ≠ -1 ∧ mem 68 s ≤ q) → ((∃ k : Int, n ≤ k ∧ k ≤ mem 47 p - 1 ∧ k ≤ n + mem 49 p + 1 ∧ k / mem 52 p = n / mem 52 p ∧ ¬ hldA mem p (adS mem p q) k) → v = 3) ∧ (¬ (∃ k : Int, n ≤ k ∧ k ≤ mem 47 p - 1 ∧ k ≤ n + mem 49 p + 1 ∧ k / mem 52 p = n / mem 52 p ∧ ¬ hldA mem p (adS mem p q) k) → v = (if n % mem 52 p > mem 49 p then 1 else 0)))) ∧ (¬ (isLn mem p n ∧ isKn mem q) → v = -1 ∧ mem' = mem))) kd ln sz)) 22 [(0, (2, 35)), (1, (0, p)), (2, (0, n)), (3, (0, q)), (4, (0, s))] [] kd ln mem sz := by
        intro fu_7
        induction fu_7 with
        | zero => intro s _ _ hm; omega
        | succ fu_7 ih_5 =>
          intro s hs1 hall hm
          refine jblk hF [(.iload 4, 2), (.aload_n 0, 1)] (by decide +kernel) (pc' := 25) (lo' := [(0, (2, 35)), (1, (0, p)), (2, (0, n)), (3, (0, q)), (4, (0, s))]) (st' := [(2, 35), (0, s)]) rfl ?_
          refine jget hF 13 45 0 45 rfl (by decide) (by decide) rfl wd_1508 (by decide +kernel) (by exact hS.k35) ?_
          refine jicmp_ge hF (off := 55) 83 (by decide +kernel) (by decide) (by omega) (by omega) (fun h_8 => ?_) (fun h_8 => ?_)
          · refine jblk hF [(.aload_n 0, 1), (.iload_n 1, 1), (.iload_n 3, 1)] (by decide +kernel) (pc' := 86) (lo' := [(0, (2, 35)), (1, (0, p)), (2, (0, n)), (3, (0, q)), (4, (0, s))]) (st' := [(0, q), (0, p), (2, 35)]) rfl ?_
            refine jcallV hF (c_X12_makeAs hG hS hR p q (by first | omega | exact hE.fPG hp | exact (EQ36.f _ _).fPG hp) (by first | exact hSL | exact (EQ36.f _ _).fSLS (s2_k (by decide)) (s2_k (by decide)) (s2_k (by decide)) hSL) (by first | omega | (rw [show (set2 mem 35 1 0) 35 33 = mem 35 33 from s2_k (by decide)]; omega) | (rw [show (set2 mem 35 1 0) 35 0 = mem 35 0 from s2_k (by decide)]; omega)) (by omega) (by first | omega | (rw [show (set2 mem 35 1 0) 35 33 = mem 35 33 from s2_k (by decide)]; omega) | (rw [show (set2 mem 35 1 0) 35 0 = mem 35 0 from s2_k (by decide)]; omega))) MW_X12_makeAs 13 (by decide) (by exact hS.k35) wd_2008 wd_2010 wd_p85 (by decide +kernel) [] rfl rfl (by decide) (Nat.le_of_ble_eq_true rfl) (by decide) (kMV (fun m_9 h_10 => ?_))
            obtain ⟨hR_m_9, h_10⟩ := h_10
            have hK := h_10
            have hE : EQ36 mem m_9 := hK.1.e
            have e47 := congrFun (hE.at 47 (by decide)) p
            have e49 := congrFun (hE.at 49 (by decide)) p
            have e52 := congrFun (hE.at 52 (by decide)) p
            have em : n % m_9 52 p = n % mem 52 p := by rw [e52]
            have ek : ∀ x : Int, x / m_9 52 p = x / mem 52 p := fun x => by rw [e52]
            have hN1 : ¬ (∃ s : Int, 0 ≤ s ∧ s ≤ mem 35 45 - 1 ∧ mem 63 s = p ∧ mem 64 s = n ∧ mem 68 s ≠ -1 ∧ mem 68 s ≤ q) := fun ⟨s1, a1, a2, a3⟩ => absurd a3 (by have := hall s1 a1 (by omega); omega)
            refine jblk hF [(.iload_n 2, 1), (.istore 4, 2)] (by decide +kernel) (pc' := 92) (lo' := [(4, (0, n)), (0, (2, 35)), (1, (0, p)), (2, (0, n)), (3, (0, q))]) (st' := []) rfl ?_
            have L_12 : ∀ (fu_13 : Nat) (k : Int), (n ≤ k ∧ k ≤ mem 47 p) → (∀ i : Int, n ≤ i → i < k → i ≤ n + mem 49 p + 1 ∧ i / mem 52 p = n / mem 52 p ∧ hldA mem p (adS mem p q) i) →  (mem 47 p - k).toNat < fu_13 → J z g 5 0 0 (QM z g 0 0 (pMR 0 (fun v mem' => SR mem' ∧ (((isLn mem p n ∧ isKn mem q) → FR mem mem' ∧ ((∃ s : Int, 0 ≤ s ∧ s ≤ mem 35 45 - 1 ∧ mem 63 s = p ∧ mem 64 s = n ∧ mem 68 s ≠ -1 ∧ mem 68 s ≤ q) → v = 2) ∧ (¬ (∃ s : Int, 0 ≤ s ∧ s ≤ mem 35 45 - 1 ∧ mem 63 s = p ∧ mem 64 s = n ∧ mem 68 s ≠ -1 ∧ mem 68 s ≤ q) → ((∃ k : Int, n ≤ k ∧ k ≤ mem 47 p - 1 ∧ k ≤ n + mem 49 p + 1 ∧ k / mem 52 p = n / mem 52 p ∧ ¬ hldA mem p (adS mem p q) k) → v = 3) ∧ (¬ (∃ k : Int, n ≤ k ∧ k ≤ mem 47 p - 1 ∧ k ≤ n + mem 49 p + 1 ∧ k / mem 52 p = n / mem 52 p ∧ ¬ hldA mem p (adS mem p q) k) → v = (if n % mem 52 p > mem 49 p then 1 else 0)))) ∧ (¬ (isLn mem p n ∧ isKn mem q) → v = -1 ∧ mem' = mem))) kd ln sz)) 92 [(0, (2, 35)), (1, (0, p)), (2, (0, n)), (3, (0, q)), (4, (0, k))] [] kd ln m_9 sz := by
              intro fu_13
              induction fu_13 with
              | zero => intro k _ _ hm; omega
              | succ fu_13 ih_11 =>
                intro k hk hal2 hm
                refine jblk hF [(.iload 4, 2), (.aload_n 0, 1)] (by decide +kernel) (pc' := 95) (lo' := [(0, (2, 35)), (1, (0, p)), (2, (0, n)), (3, (0, q)), (4, (0, k))]) (st' := [(2, 35), (0, k)]) rfl ?_
                refine jget hF 13 22 2 22 rfl (by decide) (by decide) rfl wd_1485 (by decide +kernel) (by exact hS.k35) ?_
                rw [SR.r22 hR_m_9]
                refine jblk hF [(.iload_n 1, 1)] (by decide +kernel) (pc' := 99) (lo' := [(0, (2, 35)), (1, (0, p)), (2, (0, n)), (3, (0, q)), (4, (0, k))]) (st' := [(0, p), (2, 47), (0, k)]) rfl ?_
                refine jiald hF (by decide +kernel) (by exact hS.k47) (by omega) (by have := hS.l47; omega) ?_
                refine jicmp_ge hF (off := 56) 156 (by decide +kernel) (by decide) (by omega) (by omega) (fun h_14 => ?_) (fun h_14 => ?_)
                · refine jblk hF [(.aload_n 0, 1), (.iload_n 1, 1), (.iload_n 2, 1)] (by decide +kernel) (pc' := 159) (lo' := [(0, (2, 35)), (1, (0, p)), (2, (0, n)), (3, (0, q)), (4, (0, k))]) (st' := [(0, n), (0, p), (2, 35)]) rfl ?_
                  refine jcallV hF (c_X12_isMade hG hS hR_m_9 p n (by first | omega | exact hE.fPG hp | exact (EQ36.f _ _).fPG hp) (by omega)) MW_X12_isMade 13 (by decide) (by exact hS.k35) wd_1942 wd_1944 wd_p74 (by decide +kernel) [] rfl rfl (by decide) (Nat.le_of_ble_eq_true rfl) (by decide) (kB (fun h_15 => ?_) (fun h_15 => ?_))
                  · refine jif_eq hF (off := 7) 169 (by decide +kernel) (by decide) (by decide) (fun h => absurd h (by decide)) (fun _ => ?_)
                    refine jblk hF [(.iconst 1, 1)] (by decide +kernel) (pc' := 166) (lo' := [(0, (2, 35)), (1, (0, p)), (2, (0, n)), (3, (0, q)), (4, (0, k))]) (st' := [(0, 1)]) rfl ?_
                    refine jgoto hF (off := 4) 170 (by decide +kernel) (by decide) ?_
                    refine jiret hF hr (by decide +kernel) ?_
                    exact lMR ⟨hR_m_9, by exact ⟨fun _ => ⟨hK.1, fun h => absurd h hN1, fun _ => ⟨fun ⟨k1, b1, b2, b3, b4, b5⟩ => (b5 (by rcases Int.lt_or_le k1 k with g1 | g1; exact (hal2 k1 b1 g1).2.2; have d1 := Int.ediv_le_ediv (show 0 < mem 52 p by omega) (show n ≤ k by omega); have d2 := Int.ediv_le_ediv (show 0 < mem 52 p by omega) g1; omega)).elim, fun _ => by first | exact (if_pos (by omega)).symm | exact (if_neg (by omega)).symm⟩⟩, fun h => absurd (by omega) h⟩⟩
                  · refine jif_eq hF (off := 7) 169 (by decide +kernel) (by decide) (by decide) (fun _ => ?_) (fun h => absurd h (by decide))
                    refine jblk hF [(.iconst 0, 1)] (by decide +kernel) (pc' := 170) (lo' := [(0, (2, 35)), (1, (0, p)), (2, (0, n)), (3, (0, q)), (4, (0, k))]) (st' := [(0, 0)]) rfl ?_
                    refine jiret hF hr (by decide +kernel) ?_
                    exact lMR ⟨hR_m_9, by exact ⟨fun _ => ⟨hK.1, fun h => absurd h hN1, fun _ => ⟨fun ⟨k1, b1, b2, b3, b4, b5⟩ => (b5 (by rcases Int.lt_or_le k1 k with g1 | g1; exact (hal2 k1 b1 g1).2.2; have d1 := Int.ediv_le_ediv (show 0 < mem 52 p by omega) (show n ≤ k by omega); have d2 := Int.ediv_le_ediv (show 0 < mem 52 p by omega) g1; omega)).elim, fun _ => by first | exact (if_pos (by omega)).symm | exact (if_neg (by omega)).symm⟩⟩, fun h => absurd (by omega) h⟩⟩
                · refine jblk hF [(.iload 4, 2), (.iload_n 2, 1), (.aload_n 0, 1)] (by decide +kernel) (pc' := 107) (lo' := [(0, (2, 35)), (1, (0, p)), (2, (0, n)), (3, (0, q)), (4, (0, k))]) (st' := [(2, 35), (0, n), (0, k)]) rfl ?_
                  refine jget hF 13 24 2 24 rfl (by decide) (by decide) rfl wd_1487 (by decide +kernel) (by exact hS.k35) ?_
                  rw [SR.r24 hR_m_9]
                  refine jblk hF [(.iload_n 1, 1)] (by decide +kernel) (pc' := 111) (lo' := [(0, (2, 35)), (1, (0, p)), (2, (0, n)), (3, (0, q)), (4, (0, k))]) (st' := [(0, p), (2, 49), (0, n), (0, k)]) rfl ?_
                  refine jiald hF (by decide +kernel) (by exact hS.k49) (by omega) (by have := hS.l49; omega) ?_
                  refine jblk hF [(.iadd, 1), (.iconst 1, 1), (.iadd, 1)] (by decide +kernel) (pc' := 115) (lo' := [(0, (2, 35)), (1, (0, p)), (2, (0, n)), (3, (0, q)), (4, (0, k))]) (st' := [(0, (n + (m_9 49 p)) + 1), (0, k)]) rfl ?_
                  refine jicmp_gt hF (off := 41) 156 (by decide +kernel) (by decide) (by omega) (by omega) (fun h_18 => ?_) (fun h_18 => ?_)
                  · refine jblk hF [(.aload_n 0, 1), (.iload_n 1, 1), (.iload_n 2, 1)] (by decide +kernel) (pc' := 159) (lo' := [(0, (2, 35)), (1, (0, p)), (2, (0, n)), (3, (0, q)), (4, (0, k))]) (st' := [(0, n), (0, p), (2, 35)]) rfl ?_
                    refine jcallV hF (c_X12_isMade hG hS hR_m_9 p n (by first | omega | exact hE.fPG hp | exact (EQ36.f _ _).fPG hp) (by omega)) MW_X12_isMade 13 (by decide) (by exact hS.k35) wd_1942 wd_1944 wd_p74 (by decide +kernel) [] rfl rfl (by decide) (Nat.le_of_ble_eq_true rfl) (by decide) (kB (fun h_19 => ?_) (fun h_19 => ?_))
                    · refine jif_eq hF (off := 7) 169 (by decide +kernel) (by decide) (by decide) (fun h => absurd h (by decide)) (fun _ => ?_)
                      refine jblk hF [(.iconst 1, 1)] (by decide +kernel) (pc' := 166) (lo' := [(0, (2, 35)), (1, (0, p)), (2, (0, n)), (3, (0, q)), (4, (0, k))]) (st' := [(0, 1)]) rfl ?_
                      refine jgoto hF (off := 4) 170 (by decide +kernel) (by decide) ?_
                      refine jiret hF hr (by decide +kernel) ?_
                      exact lMR ⟨hR_m_9, by exact ⟨fun _ => ⟨hK.1, fun h => absurd h hN1, fun _ => ⟨fun ⟨k1, b1, b2, b3, b4, b5⟩ => (b5 (by rcases Int.lt_or_le k1 k with g1 | g1; exact (hal2 k1 b1 g1).2.2; have d1 := Int.ediv_le_ediv (show 0 < mem 52 p by omega) (show n ≤ k by omega); have d2 := Int.ediv_le_ediv (show 0 < mem 52 p by omega) g1; omega)).elim, fun _ => by first | exact (if_pos (by omega)).symm | exact (if_neg (by omega)).symm⟩⟩, fun h => absurd (by omega) h⟩⟩
                    · refine jif_eq hF (off := 7) 169 (by decide +kernel) (by decide) (by decide) (fun _ => ?_) (fun h => absurd h (by decide))
                      refine jblk hF [(.iconst 0, 1)] (by decide +kernel) (pc' := 170) (lo' := [(0, (2, 35)), (1, (0, p)), (2, (0, n)), (3, (0, q)), (4, (0, k))]) (st' := [(0, 0)]) rfl ?_
                      refine jiret hF hr (by decide +kernel) ?_
                      exact lMR ⟨hR_m_9, by exact ⟨fun _ => ⟨hK.1, fun h => absurd h hN1, fun _ => ⟨fun ⟨k1, b1, b2, b3, b4, b5⟩ => (b5 (by rcases Int.lt_or_le k1 k with g1 | g1; exact (hal2 k1 b1 g1).2.2; have d1 := Int.ediv_le_ediv (show 0 < mem 52 p by omega) (show n ≤ k by omega); have d2 := Int.ediv_le_ediv (show 0 < mem 52 p by omega) g1; omega)).elim, fun _ => by first | exact (if_pos (by omega)).symm | exact (if_neg (by omega)).symm⟩⟩, fun h => absurd (by omega) h⟩⟩
                  · have ek1 := ek k
                    have ek2 := ek n
                    have hdv1 := ediv_bd k (mem 52 p) (by omega)
                    have hdv2 := ediv_bd n (mem 52 p) (by omega)
                    refine jblk hF [(.iload 4, 2), (.aload_n 0, 1)] (by decide +kernel) (pc' := 121) (lo' := [(0, (2, 35)), (1, (0, p)), (2, (0, n)), (3, (0, q)), (4, (0, k))]) (st' := [(2, 35), (0, k)]) rfl ?_
                    refine jget hF 13 27 2 27 rfl (by decide) (by decide) rfl wd_1490 (by decide +kernel) (by exact hS.k35) ?_
                    rw [SR.r27 hR_m_9]
                    refine jblk hF [(.iload_n 1, 1)] (by decide +kernel) (pc' := 125) (lo' := [(0, (2, 35)), (1, (0, p)), (2, (0, n)), (3, (0, q)), (4, (0, k))]) (st' := [(0, p), (2, 52), (0, k)]) rfl ?_
                    refine jiald hF (by decide +kernel) (by exact hS.k52) (by omega) (by have := hS.l52; omega) ?_
                    refine jidivN hF (by decide +kernel) (by omega) (by omega) ?_
                    refine jblk hF [(.iload_n 2, 1), (.aload_n 0, 1)] (by decide +kernel) (pc' := 129) (lo' := [(0, (2, 35)), (1, (0, p)), (2, (0, n)), (3, (0, q)), (4, (0, k))]) (st' := [(2, 35), (0, n), (0, k / (m_9 52 p))]) rfl ?_
                    refine jget hF 13 27 2 27 rfl (by decide) (by decide) rfl wd_1490 (by decide +kernel) (by exact hS.k35) ?_
                    rw [SR.r27 hR_m_9]
                    refine jblk hF [(.iload_n 1, 1)] (by decide +kernel) (pc' := 133) (lo' := [(0, (2, 35)), (1, (0, p)), (2, (0, n)), (3, (0, q)), (4, (0, k))]) (st' := [(0, p), (2, 52), (0, n), (0, k / (m_9 52 p))]) rfl ?_
                    refine jiald hF (by decide +kernel) (by exact hS.k52) (by omega) (by have := hS.l52; omega) ?_
                    refine jidivN hF (by decide +kernel) (by omega) (by omega) ?_
                    refine jicmp_ne hF (off := 21) 156 (by decide +kernel) (by decide) (by omega) (by omega) (fun h_22 => ?_) (fun h_22 => ?_)
                    · refine jblk hF [(.aload_n 0, 1), (.iload_n 1, 1), (.iload_n 2, 1)] (by decide +kernel) (pc' := 159) (lo' := [(0, (2, 35)), (1, (0, p)), (2, (0, n)), (3, (0, q)), (4, (0, k))]) (st' := [(0, n), (0, p), (2, 35)]) rfl ?_
                      refine jcallV hF (c_X12_isMade hG hS hR_m_9 p n (by first | omega | exact hE.fPG hp | exact (EQ36.f _ _).fPG hp) (by omega)) MW_X12_isMade 13 (by decide) (by exact hS.k35) wd_1942 wd_1944 wd_p74 (by decide +kernel) [] rfl rfl (by decide) (Nat.le_of_ble_eq_true rfl) (by decide) (kB (fun h_23 => ?_) (fun h_23 => ?_))
                      · refine jif_eq hF (off := 7) 169 (by decide +kernel) (by decide) (by decide) (fun h => absurd h (by decide)) (fun _ => ?_)
                        refine jblk hF [(.iconst 1, 1)] (by decide +kernel) (pc' := 166) (lo' := [(0, (2, 35)), (1, (0, p)), (2, (0, n)), (3, (0, q)), (4, (0, k))]) (st' := [(0, 1)]) rfl ?_
                        refine jgoto hF (off := 4) 170 (by decide +kernel) (by decide) ?_
                        refine jiret hF hr (by decide +kernel) ?_
                        exact lMR ⟨hR_m_9, by exact ⟨fun _ => ⟨hK.1, fun h => absurd h hN1, fun _ => ⟨fun ⟨k1, b1, b2, b3, b4, b5⟩ => (b5 (by rcases Int.lt_or_le k1 k with g1 | g1; exact (hal2 k1 b1 g1).2.2; have d1 := Int.ediv_le_ediv (show 0 < mem 52 p by omega) (show n ≤ k by omega); have d2 := Int.ediv_le_ediv (show 0 < mem 52 p by omega) g1; omega)).elim, fun _ => by first | exact (if_pos (by omega)).symm | exact (if_neg (by omega)).symm⟩⟩, fun h => absurd (by omega) h⟩⟩
                      · refine jif_eq hF (off := 7) 169 (by decide +kernel) (by decide) (by decide) (fun _ => ?_) (fun h => absurd h (by decide))
                        refine jblk hF [(.iconst 0, 1)] (by decide +kernel) (pc' := 170) (lo' := [(0, (2, 35)), (1, (0, p)), (2, (0, n)), (3, (0, q)), (4, (0, k))]) (st' := [(0, 0)]) rfl ?_
                        refine jiret hF hr (by decide +kernel) ?_
                        exact lMR ⟨hR_m_9, by exact ⟨fun _ => ⟨hK.1, fun h => absurd h hN1, fun _ => ⟨fun ⟨k1, b1, b2, b3, b4, b5⟩ => (b5 (by rcases Int.lt_or_le k1 k with g1 | g1; exact (hal2 k1 b1 g1).2.2; have d1 := Int.ediv_le_ediv (show 0 < mem 52 p by omega) (show n ≤ k by omega); have d2 := Int.ediv_le_ediv (show 0 < mem 52 p by omega) g1; omega)).elim, fun _ => by first | exact (if_pos (by omega)).symm | exact (if_neg (by omega)).symm⟩⟩, fun h => absurd (by omega) h⟩⟩
                    · refine jblk hF [(.aload_n 0, 1), (.iload_n 1, 1), (.iload 4, 2)] (by decide +kernel) (pc' := 142) (lo' := [(0, (2, 35)), (1, (0, p)), (2, (0, n)), (3, (0, q)), (4, (0, k))]) (st' := [(0, k), (0, p), (2, 35)]) rfl ?_
                      refine jcallV hF (c_X12_holds hG hS hR_m_9 p k (by first | omega | exact hp9 | exact hE.fPG hp | exact (EQ36.f _ _).fPG hp) (by first | omega | (rw [hE.at 47 (by decide)]; omega) | (rw [(EQ36.f 1 0 : EQ36 mem _).at 47 (by decide)]; omega)) (by first | exact hCH | exact hE.fCHK hCH | exact (EQ36.f _ _).fCHK hCH)) MW_X12_holds 13 (by decide) (by exact hS.k35) wd_2072 wd_2074 wd_p91 (by decide +kernel) [] rfl rfl (by decide) (Nat.le_of_ble_eq_true rfl) (by decide) (kB (fun h_26 => ?_) (fun h_26 => ?_))
                      · refine jif_ne hF (off := 5) 150 (by decide +kernel) (by decide) (by decide) (fun _ => ?_) (fun h => absurd h (by decide))
                        refine jblk hF [(.iinc 4 1, 3)] (by decide +kernel) (pc' := 153) (lo' := [(4, (0, k + 1)), (0, (2, 35)), (1, (0, p)), (2, (0, n)), (3, (0, q))]) (st' := []) rfl ?_
                        refine jgoto hF (off := (-61)) 92 (by decide +kernel) (by decide) ?_
                        refine jsub [1, 2, 3, 4, 0] rfl ?_
                        refine ih_11 (k + 1) ?_ ?_ ?_
                        · omega
                        · intro i h1 h2; by_cases e : i = k; (subst e; exact ⟨by omega, by omega, (hK.hld hp (by omega) (by omega)).mp (by assumption)⟩); exact hal2 i h1 (by omega)
                        · omega
                      · refine jif_ne hF (off := 5) 150 (by decide +kernel) (by decide) (by decide) (fun h => absurd h (by decide)) (fun _ => ?_)
                        refine jblk hF [(.iconst 3, 1)] (by decide +kernel) (pc' := 149) (lo' := [(0, (2, 35)), (1, (0, p)), (2, (0, n)), (3, (0, q)), (4, (0, k))]) (st' := [(0, 3)]) rfl ?_
                        refine jiret hF hr (by decide +kernel) ?_
                        exact lMR ⟨hR_m_9, by exact ⟨fun _ => ⟨hK.1, fun h => absurd h hN1, fun _ => ⟨fun _ => rfl, fun h => absurd ⟨k, by omega, by omega, by omega, by omega, fun q9 => absurd ((hK.hld hp (by omega) (by omega)).mpr q9) (by assumption)⟩ h⟩⟩, fun h => absurd (by omega) h⟩⟩
            refine jsub [1, 2, 3, 4, 0] rfl ?_
            refine L_12 _ n ?_ ?_ (Nat.lt_succ_self _)
            · omega
            · intro i h1 h2; omega
          · have hs := hSL.2.2 s (by omega) (by omega)
            refine jblk hF [(.aload_n 0, 1)] (by decide +kernel) (pc' := 32) (lo' := [(0, (2, 35)), (1, (0, p)), (2, (0, n)), (3, (0, q)), (4, (0, s))]) (st' := [(2, 35)]) rfl ?_
            refine jget hF 13 39 2 39 rfl (by decide) (by decide) rfl wd_1502 (by decide +kernel) (by exact hS.k35) ?_
            rw [SR.r39 hR]
            refine jblk hF [(.iload 4, 2)] (by decide +kernel) (pc' := 37) (lo' := [(0, (2, 35)), (1, (0, p)), (2, (0, n)), (3, (0, q)), (4, (0, s))]) (st' := [(0, s), (2, 63)]) rfl ?_
            refine jiald hF (by decide +kernel) (by exact hS.k63) (by omega) (by have := hS.l63; omega) ?_
            refine jblk hF [(.iload_n 1, 1)] (by decide +kernel) (pc' := 39) (lo' := [(0, (2, 35)), (1, (0, p)), (2, (0, n)), (3, (0, q)), (4, (0, s))]) (st' := [(0, p), (0, mem 63 s)]) rfl ?_
            refine jicmp_ne hF (off := 38) 77 (by decide +kernel) (by decide) (by omega) (by omega) (fun h_29 => ?_) (fun h_29 => ?_)
            · refine jblk hF [(.iinc 4 1, 3)] (by decide +kernel) (pc' := 80) (lo' := [(4, (0, s + 1)), (0, (2, 35)), (1, (0, p)), (2, (0, n)), (3, (0, q))]) (st' := []) rfl ?_
              refine jgoto hF (off := (-58)) 22 (by decide +kernel) (by decide) ?_
              refine jsub [1, 2, 3, 4, 0] rfl ?_
              refine ih_5 (s + 1) ?_ ?_ ?_
              · omega
              · intro i h1 h2; by_cases e : i = s; (subst e; omega); exact hall i h1 (by omega)
              · omega
            · have hsp : mem 63 s = p := by omega
              unfold SL at hs
              rw [hsp] at hs
              refine jblk hF [(.aload_n 0, 1)] (by decide +kernel) (pc' := 43) (lo' := [(0, (2, 35)), (1, (0, p)), (2, (0, n)), (3, (0, q)), (4, (0, s))]) (st' := [(2, 35)]) rfl ?_
              refine jget hF 13 40 2 40 rfl (by decide) (by decide) rfl wd_1503 (by decide +kernel) (by exact hS.k35) ?_
              rw [SR.r40 hR]
              refine jblk hF [(.iload 4, 2)] (by decide +kernel) (pc' := 48) (lo' := [(0, (2, 35)), (1, (0, p)), (2, (0, n)), (3, (0, q)), (4, (0, s))]) (st' := [(0, s), (2, 64)]) rfl ?_
              refine jiald hF (by decide +kernel) (by exact hS.k64) (by omega) (by have := hS.l64; omega) ?_
              refine jblk hF [(.iload_n 2, 1)] (by decide +kernel) (pc' := 50) (lo' := [(0, (2, 35)), (1, (0, p)), (2, (0, n)), (3, (0, q)), (4, (0, s))]) (st' := [(0, n), (0, mem 64 s)]) rfl ?_
              refine jicmp_ne hF (off := 27) 77 (by decide +kernel) (by decide) (by omega) (by omega) (fun h_30 => ?_) (fun h_30 => ?_)
              · refine jblk hF [(.iinc 4 1, 3)] (by decide +kernel) (pc' := 80) (lo' := [(4, (0, s + 1)), (0, (2, 35)), (1, (0, p)), (2, (0, n)), (3, (0, q))]) (st' := []) rfl ?_
                refine jgoto hF (off := (-58)) 22 (by decide +kernel) (by decide) ?_
                refine jsub [1, 2, 3, 4, 0] rfl ?_
                refine ih_5 (s + 1) ?_ ?_ ?_
                · omega
                · intro i h1 h2; by_cases e : i = s; (subst e; omega); exact hall i h1 (by omega)
                · omega
              · refine jblk hF [(.aload_n 0, 1)] (by decide +kernel) (pc' := 54) (lo' := [(0, (2, 35)), (1, (0, p)), (2, (0, n)), (3, (0, q)), (4, (0, s))]) (st' := [(2, 35)]) rfl ?_
                refine jget hF 13 44 2 44 rfl (by decide) (by decide) rfl wd_1507 (by decide +kernel) (by exact hS.k35) ?_
                rw [SR.r44 hR]
                refine jblk hF [(.iload 4, 2)] (by decide +kernel) (pc' := 59) (lo' := [(0, (2, 35)), (1, (0, p)), (2, (0, n)), (3, (0, q)), (4, (0, s))]) (st' := [(0, s), (2, 68)]) rfl ?_
                refine jiald hF (by decide +kernel) (by exact hS.k68) (by omega) (by have := hS.l68; omega) ?_
                refine jblk hF [(.iconst (-1), 1)] (by decide +kernel) (pc' := 61) (lo' := [(0, (2, 35)), (1, (0, p)), (2, (0, n)), (3, (0, q)), (4, (0, s))]) (st' := [(0, (-1)), (0, mem 68 s)]) rfl ?_
                refine jicmp_eq hF (off := 16) 77 (by decide +kernel) (by decide) (by omega) (by decide) (fun h_31 => ?_) (fun h_31 => ?_)
                · refine jblk hF [(.iinc 4 1, 3)] (by decide +kernel) (pc' := 80) (lo' := [(4, (0, s + 1)), (0, (2, 35)), (1, (0, p)), (2, (0, n)), (3, (0, q))]) (st' := []) rfl ?_
                  refine jgoto hF (off := (-58)) 22 (by decide +kernel) (by decide) ?_
                  refine jsub [1, 2, 3, 4, 0] rfl ?_
                  refine ih_5 (s + 1) ?_ ?_ ?_
                  · omega
                  · intro i h1 h2; by_cases e : i = s; (subst e; omega); exact hall i h1 (by omega)
                  · omega
                · refine jblk hF [(.aload_n 0, 1)] (by decide +kernel) (pc' := 65) (lo' := [(0, (2, 35)), (1, (0, p)), (2, (0, n)), (3, (0, q)), (4, (0, s))]) (st' := [(2, 35)]) rfl ?_
                  refine jget hF 13 44 2 44 rfl (by decide) (by decide) rfl wd_1507 (by decide +kernel) (by exact hS.k35) ?_
                  rw [SR.r44 hR]
                  refine jblk hF [(.iload 4, 2)] (by decide +kernel) (pc' := 70) (lo' := [(0, (2, 35)), (1, (0, p)), (2, (0, n)), (3, (0, q)), (4, (0, s))]) (st' := [(0, s), (2, 68)]) rfl ?_
                  refine jiald hF (by decide +kernel) (by exact hS.k68) (by omega) (by have := hS.l68; omega) ?_
                  refine jblk hF [(.iload_n 3, 1)] (by decide +kernel) (pc' := 72) (lo' := [(0, (2, 35)), (1, (0, p)), (2, (0, n)), (3, (0, q)), (4, (0, s))]) (st' := [(0, q), (0, mem 68 s)]) rfl ?_
                  refine jicmp_gt hF (off := 5) 77 (by decide +kernel) (by decide) (by omega) (by omega) (fun h_32 => ?_) (fun h_32 => ?_)
                  · refine jblk hF [(.iinc 4 1, 3)] (by decide +kernel) (pc' := 80) (lo' := [(4, (0, s + 1)), (0, (2, 35)), (1, (0, p)), (2, (0, n)), (3, (0, q))]) (st' := []) rfl ?_
                    refine jgoto hF (off := (-58)) 22 (by decide +kernel) (by decide) ?_
                    refine jsub [1, 2, 3, 4, 0] rfl ?_
                    refine ih_5 (s + 1) ?_ ?_ ?_
                    · omega
                    · intro i h1 h2; by_cases e : i = s; (subst e; omega); exact hall i h1 (by omega)
                    · omega
                  · refine jblk hF [(.iconst 2, 1)] (by decide +kernel) (pc' := 76) (lo' := [(0, (2, 35)), (1, (0, p)), (2, (0, n)), (3, (0, q)), (4, (0, s))]) (st' := [(0, 2)]) rfl ?_
                    refine jiret hF hr (by decide +kernel) ?_
                    exact lMR ⟨hR, by exact ⟨fun _ => ⟨FR.rf, fun _ => rfl, fun h => absurd ⟨s, by omega, by omega, by omega, by omega, by omega, by omega⟩ h⟩, fun h => absurd (by omega) h⟩⟩
      refine jsub [1, 2, 3, 4, 0] rfl ?_
      refine L_6 _ 0 ?_ ?_ (Nat.lt_succ_self _)
      · omega
      · intro i h1 h2; omega
    · refine jif_ne hF (off := 5) 19 (by decide +kernel) (by decide) (by decide) (fun h => absurd h (by decide)) (fun _ => ?_)
      refine jblk hF [(.iconst (-1), 1)] (by decide +kernel) (pc' := 18) (lo' := [(0, (2, 35)), (1, (0, p)), (2, (0, n)), (3, (0, q))]) (st' := [(0, (-1))]) rfl ?_
      refine jiret hF hr (by decide +kernel) ?_
      exact lMR ⟨hR, by exact ⟨fun h => absurd h (by omega), fun _ => ⟨rfl, rfl⟩⟩⟩
  · refine jif_eq hF (off := 11) 17 (by decide +kernel) (by decide) (by decide) (fun _ => ?_) (fun h => absurd h (by decide))
    refine jblk hF [(.iconst (-1), 1)] (by decide +kernel) (pc' := 18) (lo' := [(0, (2, 35)), (1, (0, p)), (2, (0, n)), (3, (0, q))]) (st' := [(0, (-1))]) rfl ?_
    refine jiret hF hr (by decide +kernel) ?_
    exact lMR ⟨hR, by exact ⟨fun h => absurd h (by omega), fun _ => ⟨rfl, rfl⟩⟩⟩
set_option maxHeartbeats 4000000 in
set_option maxRecDepth 100000 in
theorem c_X12_unseen {l : Launch} {g : GP} (hG : GH g) {kd : Int → Nat} {ln : Int → Int} {mem : Int → Int → Int} {sz : Nat} (hS : SK kd ln) (hR : SR mem) (p q : Int) (h_p : InI p) (h_q : InI q) (hPS : PGS mem) (hSL : SLS mem) (h0 : 0 ≤ mem 35 0 ∧ mem 35 0 ≤ 1000) (hCH : CHK mem) : MT l g yX12_unseen cX12_unseen 5 (some .int) 6 0 0 [(2, 35), (0, p), (0, q)] kd ln mem sz (pMR 0 (fun v mem' => SR mem' ∧ (((isPg mem p ∧ isKn mem q) → v = unN mem p q (mem 35 45).toNat ∧ FR mem mem') ∧ (¬ (isPg mem p ∧ isKn mem q) → v = -1 ∧ mem' = mem))) kd ln sz) := by
  refine MT_of hG (by decide +kernel) (Nat.le_of_ble_eq_true rfl) (fun z hF hr hn => ?_)
  refine jblk hF [(.aload_n 0, 1), (.iload_n 1, 1)] (by decide +kernel) (pc' := 2) (lo' := [(0, (2, 35)), (1, (0, p)), (2, (0, q))]) (st' := [(0, p), (2, 35)]) rfl ?_
  refine jcallV hF (c_X12_isPage hG hS hR p (by omega) (by omega)) MW_X12_isPage 13 (by decide) (by exact hS.k35) wd_1930 wd_1932 wd_p71 (by decide +kernel) [] rfl rfl (by decide) (Nat.le_of_ble_eq_true rfl) (by decide) (kB (fun h_1 => ?_) (fun h_1 => ?_))
  · refine jif_eq hF (off := 11) 16 (by decide +kernel) (by decide) (by decide) (fun h => absurd h (by decide)) (fun _ => ?_)
    have hp := hPS.2.2 p (by omega) (by omega)
    refine jblk hF [(.aload_n 0, 1), (.iload_n 2, 1)] (by decide +kernel) (pc' := 10) (lo' := [(0, (2, 35)), (1, (0, p)), (2, (0, q))]) (st' := [(0, q), (2, 35)]) rfl ?_
    refine jcallV hF (c_X12_isKnowing hG hS hR q (by omega) (by omega)) MW_X12_isKnowing 13 (by decide) (by exact hS.k35) wd_2004 wd_2006 wd_p84 (by decide +kernel) [] rfl rfl (by decide) (Nat.le_of_ble_eq_true rfl) (by decide) (kB (fun h_3 => ?_) (fun h_3 => ?_))
    · refine jif_ne hF (off := 5) 18 (by decide +kernel) (by decide) (by decide) (fun _ => ?_) (fun h => absurd h (by decide))
      refine jblk hF [(.iconst 0, 1), (.istore_n 3, 1), (.iconst 0, 1), (.istore 4, 2)] (by decide +kernel) (pc' := 23) (lo' := [(4, (0, 0)), (3, (0, 0)), (0, (2, 35)), (1, (0, p)), (2, (0, q))]) (st' := []) rfl ?_
      have L_6 : ∀ (fu_7 : Nat) (k : Int) (s : Int) (m1 : Int → Int → Int), (0 ≤ s ∧ s ≤ mem 35 45) → (SR m1) → (FR mem m1) → (k = unN mem p q s.toNat) →  (mem 35 45 - s).toNat < fu_7 → J z g 5 0 0 (QM z g 0 0 (pMR 0 (fun v mem' => SR mem' ∧ (((isPg mem p ∧ isKn mem q) → v = unN mem p q (mem 35 45).toNat ∧ FR mem mem') ∧ (¬ (isPg mem p ∧ isKn mem q) → v = -1 ∧ mem' = mem))) kd ln sz)) 23 [(0, (2, 35)), (1, (0, p)), (2, (0, q)), (3, (0, k)), (4, (0, s))] [] kd ln m1 sz := by
        intro fu_7
        induction fu_7 with
        | zero => intro k s m1 _ _ _ _ hm; omega
        | succ fu_7 ih_5 =>
          intro k s m1 hs1 hR_m1 hfr hk hm
          have hb := unN_bd mem p q s.toNat
          have e45 : m1 35 45 = mem 35 45 := hfr 35 45 (by decide) (by decide) (by decide) (by decide)
          have e63 : m1 63 s = mem 63 s := hfr 63 s (by decide) (by decide) (by decide) (by decide)
          have e67 : m1 67 s = mem 67 s := hfr 67 s (by decide) (by decide) (by decide) (by decide)
          have e68 : m1 68 s = mem 68 s := hfr 68 s (by decide) (by decide) (by decide) (by decide)
          have hSs : s ≤ mem 35 45 - 1 → SL mem s := fun h => hSL.2.2 s (by omega) h
          have hun : unN mem p q (s + 1).toNat = unN mem p q s.toNat + (if mem 63 s = p ∧ cntS mem s q ∧ flN mem p (oneA (5 * mem 64 s + slotV (mem 65 s)) (mem 66 s)) (mem 47 p).toNat = 0 then 1 else 0) := by rw [show (s + 1).toNat = s.toNat + 1 by omega, unN, show ((s.toNat : Nat) : Int) = s by omega]
          refine jblk hF [(.iload 4, 2), (.aload_n 0, 1)] (by decide +kernel) (pc' := 26) (lo' := [(0, (2, 35)), (1, (0, p)), (2, (0, q)), (3, (0, k)), (4, (0, s))]) (st' := [(2, 35), (0, s)]) rfl ?_
          refine jget hF 13 45 0 45 rfl (by decide) (by decide) rfl wd_1508 (by decide +kernel) (by exact hS.k35) ?_
          refine jicmp_ge hF (off := 88) 117 (by decide +kernel) (by decide) (by omega) (by omega) (fun h_8 => ?_) (fun h_8 => ?_)
          · refine jblk hF [(.iload_n 3, 1)] (by decide +kernel) (pc' := 118) (lo' := [(0, (2, 35)), (1, (0, p)), (2, (0, q)), (3, (0, k)), (4, (0, s))]) (st' := [(0, k)]) rfl ?_
            refine jiret hF hr (by decide +kernel) ?_
            exact lMR ⟨hR_m1, by first | exact ⟨fun h => absurd h (by omega), fun _ => ⟨rfl, rfl⟩⟩ | exact ⟨fun _ => ⟨by rw [hk]; congr 1; omega, hfr⟩, fun h => absurd (by omega) h⟩⟩
          · refine jblk hF [(.aload_n 0, 1)] (by decide +kernel) (pc' := 33) (lo' := [(0, (2, 35)), (1, (0, p)), (2, (0, q)), (3, (0, k)), (4, (0, s))]) (st' := [(2, 35)]) rfl ?_
            refine jget hF 13 39 2 39 rfl (by decide) (by decide) rfl wd_1502 (by decide +kernel) (by exact hS.k35) ?_
            rw [SR.r39 hR_m1]
            refine jblk hF [(.iload 4, 2)] (by decide +kernel) (pc' := 38) (lo' := [(0, (2, 35)), (1, (0, p)), (2, (0, q)), (3, (0, k)), (4, (0, s))]) (st' := [(0, s), (2, 63)]) rfl ?_
            refine jiald hF (by decide +kernel) (by exact hS.k63) (by omega) (by have := hS.l63; omega) ?_
            refine jblk hF [(.iload_n 1, 1)] (by decide +kernel) (pc' := 40) (lo' := [(0, (2, 35)), (1, (0, p)), (2, (0, q)), (3, (0, k)), (4, (0, s))]) (st' := [(0, p), (0, m1 63 s)]) rfl ?_
            refine jicmp_ne hF (off := 71) 111 (by decide +kernel) (by decide) (by omega) (by omega) (fun h_9 => ?_) (fun h_9 => ?_)
            · refine jblk hF [(.iinc 4 1, 3)] (by decide +kernel) (pc' := 114) (lo' := [(4, (0, s + 1)), (0, (2, 35)), (1, (0, p)), (2, (0, q)), (3, (0, k))]) (st' := []) rfl ?_
              refine jgoto hF (off := (-91)) 23 (by decide +kernel) (by decide) ?_
              refine jsub [1, 2, 3, 4, 0] rfl ?_
              refine ih_5 k (s + 1) m1 ?_ ?_ ?_ ?_ ?_
              · omega
              · assumption
              · first | exact hfr | exact hPD.1
              · rw [hun]; first | (rw [if_pos (by omega)]; omega) | (rw [if_neg (by omega)]; omega)
              · omega
            · have hsp : mem 63 s = p := by omega
              have hs := hSs (by omega)
              unfold SL at hs
              rw [hsp] at hs
              refine jblk hF [(.aload_n 0, 1), (.iload 4, 2), (.iload_n 2, 1)] (by decide +kernel) (pc' := 47) (lo' := [(0, (2, 35)), (1, (0, p)), (2, (0, q)), (3, (0, k)), (4, (0, s))]) (st' := [(0, q), (0, s), (2, 35)]) rfl ?_
              refine jcallV hF (c_X12_counts hG hS hR_m1 s q (by omega) (by omega) (by omega) (by omega)) MW_X12_counts 13 (by decide) (by exact hS.k35) wd_2012 wd_2014 wd_p86 (by decide +kernel) [] rfl rfl (by decide) (Nat.le_of_ble_eq_true rfl) (by decide) (kB (fun h_10 => ?_) (fun h_10 => ?_))
              · refine jif_eq hF (off := 61) 111 (by decide +kernel) (by decide) (by decide) (fun h => absurd h (by decide)) (fun _ => ?_)
                refine jblk hF [(.aload_n 0, 1)] (by decide +kernel) (pc' := 54) (lo' := [(0, (2, 35)), (1, (0, p)), (2, (0, q)), (3, (0, k)), (4, (0, s))]) (st' := [(2, 35)]) rfl ?_
                refine jcallV hF (c_X12_clear hG hS hR_m1) MW_X12_clear 13 (by decide) (by exact hS.k35) wd_1988 wd_1990 wd_p81 (by decide +kernel) [] rfl rfl (by decide) (Nat.le_of_ble_eq_true rfl) (by decide) (kMV (fun m_12 h_13 => ?_))
                obtain ⟨hR_m_12, h_13⟩ := h_13
                have hcl := h_13
                have hsl : 0 ≤ slotV (mem 65 s) ∧ slotV (mem 65 s) ≤ 4 := by unfold slotV; split <;> omega
                have g64 : m_12 64 s = mem 64 s := (hcl.1 64 s (by decide)).trans (hfr 64 s (by decide) (by decide) (by decide) (by decide))
                have g65 : m_12 65 s = mem 65 s := (hcl.1 65 s (by decide)).trans (hfr 65 s (by decide) (by decide) (by decide) (by decide))
                have g66 : m_12 66 s = mem 66 s := (hcl.1 66 s (by decide)).trans (hfr 66 s (by decide) (by decide) (by decide) (by decide))
                have hsl2 : 0 ≤ slotV (m_12 65 s) ∧ slotV (m_12 65 s) ≤ 4 := by rw [g65]; exact hsl
                have hp9 : PG (set2 m_12 59 (5 * m_12 64 s + slotV (m_12 65 s)) (m_12 66 s)) p := PG_congr (fun a j q1 q2 q3 q4 => by rw [s2_a q1, hcl.1 a j q1]; exact hfr a j q1 q2 q3 q4) hp
                refine jblk hF [(.aload_n 0, 1)] (by decide +kernel) (pc' := 58) (lo' := [(0, (2, 35)), (1, (0, p)), (2, (0, q)), (3, (0, k)), (4, (0, s))]) (st' := [(2, 35)]) rfl ?_
                refine jget hF 13 35 2 35 rfl (by decide) (by decide) rfl wd_1498 (by decide +kernel) (by exact hS.k35) ?_
                rw [SR.r35 hR_m_12]
                refine jblk hF [(.iconst 5, 1), (.aload_n 0, 1)] (by decide +kernel) (pc' := 63) (lo' := [(0, (2, 35)), (1, (0, p)), (2, (0, q)), (3, (0, k)), (4, (0, s))]) (st' := [(2, 35), (0, 5), (2, 59)]) rfl ?_
                refine jget hF 13 40 2 40 rfl (by decide) (by decide) rfl wd_1503 (by decide +kernel) (by exact hS.k35) ?_
                rw [SR.r40 hR_m_12]
                refine jblk hF [(.iload 4, 2)] (by decide +kernel) (pc' := 68) (lo' := [(0, (2, 35)), (1, (0, p)), (2, (0, q)), (3, (0, k)), (4, (0, s))]) (st' := [(0, s), (2, 64), (0, 5), (2, 59)]) rfl ?_
                refine jiald hF (by decide +kernel) (by exact hS.k64) (by omega) (by have := hS.l64; omega) ?_
                refine jblk hF [(.imul, 1), (.aload_n 0, 1)] (by decide +kernel) (pc' := 71) (lo' := [(0, (2, 35)), (1, (0, p)), (2, (0, q)), (3, (0, k)), (4, (0, s))]) (st' := [(2, 35), (0, 5 * (m_12 64 s)), (2, 59)]) rfl ?_
                refine jget hF 13 41 2 41 rfl (by decide) (by decide) rfl wd_1504 (by decide +kernel) (by exact hS.k35) ?_
                rw [SR.r41 hR_m_12]
                refine jblk hF [(.iload 4, 2)] (by decide +kernel) (pc' := 76) (lo' := [(0, (2, 35)), (1, (0, p)), (2, (0, q)), (3, (0, k)), (4, (0, s))]) (st' := [(0, s), (2, 65), (0, 5 * (m_12 64 s)), (2, 59)]) rfl ?_
                refine jiald hF (by decide +kernel) (by exact hS.k65) (by omega) (by have := hS.l65; omega) ?_
                refine jcallS hF (c_X12_slot hG (m_12 65 s) (by omega)) MW_X12_slot wd_2016 wd_2017 (by decide +kernel) [(0, 5 * (m_12 64 s)), (2, 59)] rfl rfl (by decide) (Nat.le_of_ble_eq_true rfl) (by decide) (kV ?_)
                refine jblk hF [(.iadd, 1), (.aload_n 0, 1)] (by decide +kernel) (pc' := 82) (lo' := [(0, (2, 35)), (1, (0, p)), (2, (0, q)), (3, (0, k)), (4, (0, s))]) (st' := [(2, 35), (0, (5 * (m_12 64 s)) + (slotV (m_12 65 s))), (2, 59)]) rfl ?_
                refine jget hF 13 42 2 42 rfl (by decide) (by decide) rfl wd_1505 (by decide +kernel) (by exact hS.k35) ?_
                rw [SR.r42 hR_m_12]
                refine jblk hF [(.iload 4, 2)] (by decide +kernel) (pc' := 87) (lo' := [(0, (2, 35)), (1, (0, p)), (2, (0, q)), (3, (0, k)), (4, (0, s))]) (st' := [(0, s), (2, 66), (0, (5 * (m_12 64 s)) + (slotV (m_12 65 s))), (2, 59)]) rfl ?_
                refine jiald hF (by decide +kernel) (by exact hS.k66) (by omega) (by have := hS.l66; omega) ?_
                refine ji2l hF (by decide +kernel) (by omega) ?_
                refine jlast hF (by decide +kernel) (by decide) (by exact hS.k59) (by omega) (by have := hS.l59; omega) ?_
                refine jblk hF [(.aload_n 0, 1), (.iload_n 1, 1)] (by decide +kernel) (pc' := 92) (lo' := [(0, (2, 35)), (1, (0, p)), (2, (0, q)), (3, (0, k)), (4, (0, s))]) (st' := [(0, p), (2, 35)]) rfl ?_
                refine jcallV hF (c_X12_makePage hG hS (SR.s hR_m_12 (Or.inl (by decide))) p (by first | omega | exact hp9 | exact hE.fPG hp)) MW_X12_makePage 13 (by decide) (by exact hS.k35) wd_1992 wd_1994 wd_p82 (by decide +kernel) [] rfl rfl (by decide) (Nat.le_of_ble_eq_true rfl) (by decide) (kMV (fun m_14 h_15 => ?_))
                obtain ⟨hR_m_14, h_15⟩ := h_15
                have hPD := PD.one hp hfr hcl h_15
                have hE : EQ36 mem m_14 := hPD.1.e
                have hp9 := hE.fPG hp
                have hfl := hPD.fl' hp
                rw [g64, g65, g66] at hfl
                refine jblk hF [(.iload_n 3, 1), (.aload_n 0, 1), (.iload_n 1, 1)] (by decide +kernel) (pc' := 98) (lo' := [(0, (2, 35)), (1, (0, p)), (2, (0, q)), (3, (0, k)), (4, (0, s))]) (st' := [(0, p), (2, 35), (0, k)]) rfl ?_
                refine jcallV hF (c_X12_failing hG hS hR_m_14 p (by first | omega | exact hp9 | exact hE.fPG hp) (by first | exact hCH | exact hE.fCHK hCH | exact (EQ36.f _ _).fCHK hCH)) MW_X12_failing 13 (by decide) (by exact hS.k35) wd_2084 wd_2086 wd_p93 (by decide +kernel) [(0, k)] rfl rfl (by decide) (Nat.le_of_ble_eq_true rfl) (by decide) (kV ?_)
                have hf_16 := flM_bd m_14 p (m_14 47 p).toNat
                refine jif_ne hF (off := 7) 108 (by decide +kernel) (by decide) (by omega) (fun h_17 => ?_) (fun h_17 => ?_)
                · refine jblk hF [(.iconst 0, 1), (.iadd, 1), (.istore_n 3, 1), (.iinc 4 1, 3)] (by decide +kernel) (pc' := 114) (lo' := [(4, (0, s + 1)), (3, (0, k + 0)), (0, (2, 35)), (1, (0, p)), (2, (0, q))]) (st' := []) rfl ?_
                  refine jgoto hF (off := (-91)) 23 (by decide +kernel) (by decide) ?_
                  refine jsub [2, 3, 4, 1, 0] rfl ?_
                  refine ih_5 (k + 0) (s + 1) m_14 ?_ ?_ ?_ ?_ ?_
                  · omega
                  · assumption
                  · first | exact hfr | exact hPD.1
                  · rw [hun]; first | (rw [if_pos (by omega)]; omega) | (rw [if_neg (by omega)]; omega)
                  · omega
                · refine jblk hF [(.iconst 1, 1)] (by decide +kernel) (pc' := 105) (lo' := [(0, (2, 35)), (1, (0, p)), (2, (0, q)), (3, (0, k)), (4, (0, s))]) (st' := [(0, 1), (0, k)]) rfl ?_
                  refine jgoto hF (off := 4) 109 (by decide +kernel) (by decide) ?_
                  refine jblk hF [(.iadd, 1), (.istore_n 3, 1), (.iinc 4 1, 3)] (by decide +kernel) (pc' := 114) (lo' := [(4, (0, s + 1)), (3, (0, k + 1)), (0, (2, 35)), (1, (0, p)), (2, (0, q))]) (st' := []) rfl ?_
                  refine jgoto hF (off := (-91)) 23 (by decide +kernel) (by decide) ?_
                  refine jsub [2, 3, 4, 1, 0] rfl ?_
                  refine ih_5 (k + 1) (s + 1) m_14 ?_ ?_ ?_ ?_ ?_
                  · omega
                  · assumption
                  · first | exact hfr | exact hPD.1
                  · rw [hun]; first | (rw [if_pos (by omega)]; omega) | (rw [if_neg (by omega)]; omega)
                  · omega
              · refine jif_eq hF (off := 61) 111 (by decide +kernel) (by decide) (by decide) (fun _ => ?_) (fun h => absurd h (by decide))
                refine jblk hF [(.iinc 4 1, 3)] (by decide +kernel) (pc' := 114) (lo' := [(4, (0, s + 1)), (0, (2, 35)), (1, (0, p)), (2, (0, q)), (3, (0, k))]) (st' := []) rfl ?_
                refine jgoto hF (off := (-91)) 23 (by decide +kernel) (by decide) ?_
                refine jsub [1, 2, 3, 4, 0] rfl ?_
                refine ih_5 k (s + 1) m1 ?_ ?_ ?_ ?_ ?_
                · omega
                · assumption
                · first | exact hfr | exact hPD.1
                · rw [hun]; first | (rw [if_pos (by omega)]; omega) | (rw [if_neg (by omega)]; omega)
                · omega
      refine jsub [2, 3, 4, 1, 0] rfl ?_
      refine L_6 _ 0 0 mem ?_ ?_ ?_ ?_ (Nat.lt_succ_self _)
      · omega
      · exact hR
      · exact FR.rf
      · rfl
    · refine jif_ne hF (off := 5) 18 (by decide +kernel) (by decide) (by decide) (fun h => absurd h (by decide)) (fun _ => ?_)
      refine jblk hF [(.iconst (-1), 1)] (by decide +kernel) (pc' := 17) (lo' := [(0, (2, 35)), (1, (0, p)), (2, (0, q))]) (st' := [(0, (-1))]) rfl ?_
      refine jiret hF hr (by decide +kernel) ?_
      exact lMR ⟨hR, by first | exact ⟨fun h => absurd h (by omega), fun _ => ⟨rfl, rfl⟩⟩ | exact ⟨fun _ => ⟨by rw [hk]; congr 1; omega, hfr⟩, fun h => absurd (by omega) h⟩⟩
  · refine jif_eq hF (off := 11) 16 (by decide +kernel) (by decide) (by decide) (fun _ => ?_) (fun h => absurd h (by decide))
    refine jblk hF [(.iconst (-1), 1)] (by decide +kernel) (pc' := 17) (lo' := [(0, (2, 35)), (1, (0, p)), (2, (0, q))]) (st' := [(0, (-1))]) rfl ?_
    refine jiret hF hr (by decide +kernel) ?_
    exact lMR ⟨hR, by first | exact ⟨fun h => absurd h (by omega), fun _ => ⟨rfl, rfl⟩⟩ | exact ⟨fun _ => ⟨by rw [hk]; congr 1; omega, hfr⟩, fun h => absurd (by omega) h⟩⟩
end
