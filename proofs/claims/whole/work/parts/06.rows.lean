section ROWS
variable {z : ZT} {l : Launch} {g : GP} {nL : Nat} {cells slots : Nat} {Q : State → Prop} {pc : Nat} {lo : List (Nat × AV)} {st rest : List AV} {kd : Int → Nat} {ln : Int → Int} {mem : Int → Int → Int} {sz : Nat} {cc : ByteArray} {own : String} {R : Room}
theorem jblk (hF : FX z l g nL cc own R) (B : List (Instr × Nat)) (hB : chk cc pc B = true) {pc' : Nat} {lo' : List (Nat × AV)} {st' : List AV} (hr : rb nL B pc lo st = some (pc', lo', st')) (k : J z g nL cells slots Q pc' lo' st' kd ln mem sz) : J z g nL cells slots Q pc lo st kd ln mem sz := by
  obtain ⟨p, l, e, R', s, m, args, below, meth, c⟩ := z
  obtain ⟨hx, hb, -⟩ := hF
  intro ls H locs hl hR hq
  induction B generalizing pc lo st ls with
  | nil => cases hr; exact k ls H locs hl hR hq
  | cons q B ih =>
    rw [chk, Bool.and_eq_true] at hB
    unfold rb at hr
    split at hr
    · rename_i r he
      obtain ⟨lo1, st1⟩ := r
      exact exi_ok hx hb (of_decide_eq_true hB.1) he hl (fun ls' hl' => ih hB.2 hr ls' hl')
    · cases hr
theorem jgoto (hF : FX z l g nL cc own R) {off : Int} (tgt : Nat) (hd : decode cc pc = .ok (.goto off, 3)) (ht : (pc : Int) + off = (tgt : Int)) (k : J z g nL cells slots Q tgt lo st kd ln mem sz) : J z g nL cells slots Q pc lo st kd ln mem sz := by
  obtain ⟨p, l, e, R', s, m, args, below, meth, c⟩ := z
  obtain ⟨hx, hb, -⟩ := hF
  exact fun ls H locs hl hR hq => lv_goto hx hb hd ht (k ls H locs hl hR hq)
theorem L_eq {a b : Int} (ha : InL a) (hb : InL b) : Int64.ofInt a = Int64.ofInt b ↔ a = b := by rw [← Int64.toInt_inj, L_toInt ha, L_toInt hb]
theorem L_lt {a b : Int} (ha : InL a) (hb : InL b) : Int64.ofInt a < Int64.ofInt b ↔ a < b := by rw [Int64.lt_iff_toInt_lt, L_toInt ha, L_toInt hb]
theorem L_le {a b : Int} (ha : InL a) (hb : InL b) : Int64.ofInt a ≤ Int64.ofInt b ↔ a ≤ b := by rw [Int64.le_iff_toInt_le, L_toInt ha, L_toInt hb]
theorem jicmp_eq (hF : FX z l g nL cc own R) {a b off : Int} (tgt : Nat) (hd : decode cc pc = .ok (.if_icmp .eq off, 3)) (ht : (pc : Int) + off = (tgt : Int)) (hA : InI a) (hB : InI b) (kt : a = b → J z g nL cells slots Q tgt lo rest kd ln mem sz) (kf : ¬ (a = b) → J z g nL cells slots Q (pc + 3) lo rest kd ln mem sz) : J z g nL cells slots Q pc lo ((0, b) :: (0, a) :: rest) kd ln mem sz := by
  obtain ⟨p, l, e, R', s, m, args, below, meth, c⟩ := z
  obtain ⟨hx, hb, -⟩ := hF
  intro ls H locs hl hR hq
  exact lv_icmp_eq hx hb hd ht (fun h => kt ((I_eq hA hB).mp h) ls H locs hl hR hq) (fun h => kf (fun q => h ((I_eq hA hB).mpr q)) ls H locs hl hR hq)
theorem jif_eq (hF : FX z l g nL cc own R) {a off : Int} (tgt : Nat) (hd : decode cc pc = .ok (.ifCond .eq off, 3)) (ht : (pc : Int) + off = (tgt : Int)) (hA : InI a) (kt : a = 0 → J z g nL cells slots Q tgt lo rest kd ln mem sz) (kf : ¬ (a = 0) → J z g nL cells slots Q (pc + 3) lo rest kd ln mem sz) : J z g nL cells slots Q pc lo ((0, a) :: rest) kd ln mem sz := by
  obtain ⟨p, l, e, R', s, m, args, below, meth, c⟩ := z
  obtain ⟨hx, hb, -⟩ := hF
  intro ls H locs hl hR hq
  exact lv_if_eq hx hb hd ht (fun h => kt ((I_eq hA InI_0).mp h) ls H locs hl hR hq) (fun h => kf (fun q => h ((I_eq hA InI_0).mpr q)) ls H locs hl hR hq)
theorem jlcmp_eq (hF : FX z l g nL cc own R) {a b off : Int} (tgt : Nat) (hd1 : decode cc pc = .ok (.lcmp, 1)) (hd : decode cc (pc + 1) = .ok (.ifCond .eq off, 3)) (ht : ((pc + 1 : Nat) : Int) + off = (tgt : Int)) (hA : InL a) (hB : InL b) (kt : a = b → J z g nL cells slots Q tgt lo rest kd ln mem sz) (kf : ¬ (a = b) → J z g nL cells slots Q (pc + 1 + 3) lo rest kd ln mem sz) : J z g nL cells slots Q pc lo ((1, b) :: (1, a) :: rest) kd ln mem sz := by
  obtain ⟨p, l, e, R', s, m, args, below, meth, c⟩ := z
  obtain ⟨hx, hb, -⟩ := hF
  intro ls H locs hl hR hq
  refine W.lcmp hx hb hd1 ?_
  exact lv_if_eq hx hb hd ht (fun h => kt ((L_eq hA hB).mp ((lg_cmp_eq _ _).mp h)) ls H locs hl hR hq) (fun h => kf (fun q => h ((lg_cmp_eq _ _).mpr ((L_eq hA hB).mpr q))) ls H locs hl hR hq)
theorem jicmp_ne (hF : FX z l g nL cc own R) {a b off : Int} (tgt : Nat) (hd : decode cc pc = .ok (.if_icmp .ne off, 3)) (ht : (pc : Int) + off = (tgt : Int)) (hA : InI a) (hB : InI b) (kt : a ≠ b → J z g nL cells slots Q tgt lo rest kd ln mem sz) (kf : a = b → J z g nL cells slots Q (pc + 3) lo rest kd ln mem sz) : J z g nL cells slots Q pc lo ((0, b) :: (0, a) :: rest) kd ln mem sz := by
  obtain ⟨p, l, e, R', s, m, args, below, meth, c⟩ := z
  obtain ⟨hx, hb, -⟩ := hF
  intro ls H locs hl hR hq
  exact lv_icmp_ne hx hb hd ht (fun h => kt (fun q => h (by rw [q])) ls H locs hl hR hq) (fun h => kf ((I_eq hA hB).mp h) ls H locs hl hR hq)
theorem jif_ne (hF : FX z l g nL cc own R) {a off : Int} (tgt : Nat) (hd : decode cc pc = .ok (.ifCond .ne off, 3)) (ht : (pc : Int) + off = (tgt : Int)) (hA : InI a) (kt : a ≠ 0 → J z g nL cells slots Q tgt lo rest kd ln mem sz) (kf : a = 0 → J z g nL cells slots Q (pc + 3) lo rest kd ln mem sz) : J z g nL cells slots Q pc lo ((0, a) :: rest) kd ln mem sz := by
  obtain ⟨p, l, e, R', s, m, args, below, meth, c⟩ := z
  obtain ⟨hx, hb, -⟩ := hF
  intro ls H locs hl hR hq
  exact lv_if_ne hx hb hd ht (fun h => kt (fun q => h (by rw [q]; rfl)) ls H locs hl hR hq) (fun h => kf ((I_eq hA InI_0).mp h) ls H locs hl hR hq)
theorem jlcmp_ne (hF : FX z l g nL cc own R) {a b off : Int} (tgt : Nat) (hd1 : decode cc pc = .ok (.lcmp, 1)) (hd : decode cc (pc + 1) = .ok (.ifCond .ne off, 3)) (ht : ((pc + 1 : Nat) : Int) + off = (tgt : Int)) (hA : InL a) (hB : InL b) (kt : a ≠ b → J z g nL cells slots Q tgt lo rest kd ln mem sz) (kf : a = b → J z g nL cells slots Q (pc + 1 + 3) lo rest kd ln mem sz) : J z g nL cells slots Q pc lo ((1, b) :: (1, a) :: rest) kd ln mem sz := by
  obtain ⟨p, l, e, R', s, m, args, below, meth, c⟩ := z
  obtain ⟨hx, hb, -⟩ := hF
  intro ls H locs hl hR hq
  refine W.lcmp hx hb hd1 ?_
  exact lv_if_ne hx hb hd ht (fun h => kt (fun q => h ((lg_cmp_eq _ _).mpr (by rw [q]))) ls H locs hl hR hq) (fun h => kf ((L_eq hA hB).mp ((lg_cmp_eq _ _).mp h)) ls H locs hl hR hq)
theorem jicmp_lt (hF : FX z l g nL cc own R) {a b off : Int} (tgt : Nat) (hd : decode cc pc = .ok (.if_icmp .lt off, 3)) (ht : (pc : Int) + off = (tgt : Int)) (hA : InI a) (hB : InI b) (kt : a < b → J z g nL cells slots Q tgt lo rest kd ln mem sz) (kf : ¬ (a < b) → J z g nL cells slots Q (pc + 3) lo rest kd ln mem sz) : J z g nL cells slots Q pc lo ((0, b) :: (0, a) :: rest) kd ln mem sz := by
  obtain ⟨p, l, e, R', s, m, args, below, meth, c⟩ := z
  obtain ⟨hx, hb, -⟩ := hF
  intro ls H locs hl hR hq
  exact lv_icmp_lt hx hb hd ht (fun h => kt ((I_lt hA hB).mp h) ls H locs hl hR hq) (fun h => kf (fun q => h ((I_lt hA hB).mpr q)) ls H locs hl hR hq)
theorem jif_lt (hF : FX z l g nL cc own R) {a off : Int} (tgt : Nat) (hd : decode cc pc = .ok (.ifCond .lt off, 3)) (ht : (pc : Int) + off = (tgt : Int)) (hA : InI a) (kt : a < 0 → J z g nL cells slots Q tgt lo rest kd ln mem sz) (kf : ¬ (a < 0) → J z g nL cells slots Q (pc + 3) lo rest kd ln mem sz) : J z g nL cells slots Q pc lo ((0, a) :: rest) kd ln mem sz := by
  obtain ⟨p, l, e, R', s, m, args, below, meth, c⟩ := z
  obtain ⟨hx, hb, -⟩ := hF
  intro ls H locs hl hR hq
  exact lv_if_lt hx hb hd ht (fun h => kt ((I_lt hA InI_0).mp h) ls H locs hl hR hq) (fun h => kf (fun q => h ((I_lt hA InI_0).mpr q)) ls H locs hl hR hq)
theorem jlcmp_lt (hF : FX z l g nL cc own R) {a b off : Int} (tgt : Nat) (hd1 : decode cc pc = .ok (.lcmp, 1)) (hd : decode cc (pc + 1) = .ok (.ifCond .lt off, 3)) (ht : ((pc + 1 : Nat) : Int) + off = (tgt : Int)) (hA : InL a) (hB : InL b) (kt : a < b → J z g nL cells slots Q tgt lo rest kd ln mem sz) (kf : ¬ (a < b) → J z g nL cells slots Q (pc + 1 + 3) lo rest kd ln mem sz) : J z g nL cells slots Q pc lo ((1, b) :: (1, a) :: rest) kd ln mem sz := by
  obtain ⟨p, l, e, R', s, m, args, below, meth, c⟩ := z
  obtain ⟨hx, hb, -⟩ := hF
  intro ls H locs hl hR hq
  refine W.lcmp hx hb hd1 ?_
  exact lv_if_lt hx hb hd ht (fun h => kt ((L_lt hA hB).mp ((lg_cmp_lt _ _).mp h)) ls H locs hl hR hq) (fun h => kf (fun q => h ((lg_cmp_lt _ _).mpr ((L_lt hA hB).mpr q))) ls H locs hl hR hq)
theorem jicmp_ge (hF : FX z l g nL cc own R) {a b off : Int} (tgt : Nat) (hd : decode cc pc = .ok (.if_icmp .ge off, 3)) (ht : (pc : Int) + off = (tgt : Int)) (hA : InI a) (hB : InI b) (kt : b ≤ a → J z g nL cells slots Q tgt lo rest kd ln mem sz) (kf : ¬ (b ≤ a) → J z g nL cells slots Q (pc + 3) lo rest kd ln mem sz) : J z g nL cells slots Q pc lo ((0, b) :: (0, a) :: rest) kd ln mem sz := by
  obtain ⟨p, l, e, R', s, m, args, below, meth, c⟩ := z
  obtain ⟨hx, hb, -⟩ := hF
  intro ls H locs hl hR hq
  exact lv_icmp_ge hx hb hd ht (fun h => kt ((I_le hB hA).mp h) ls H locs hl hR hq) (fun h => kf (fun q => h ((I_le hB hA).mpr q)) ls H locs hl hR hq)
theorem jif_ge (hF : FX z l g nL cc own R) {a off : Int} (tgt : Nat) (hd : decode cc pc = .ok (.ifCond .ge off, 3)) (ht : (pc : Int) + off = (tgt : Int)) (hA : InI a) (kt : 0 ≤ a → J z g nL cells slots Q tgt lo rest kd ln mem sz) (kf : ¬ (0 ≤ a) → J z g nL cells slots Q (pc + 3) lo rest kd ln mem sz) : J z g nL cells slots Q pc lo ((0, a) :: rest) kd ln mem sz := by
  obtain ⟨p, l, e, R', s, m, args, below, meth, c⟩ := z
  obtain ⟨hx, hb, -⟩ := hF
  intro ls H locs hl hR hq
  exact lv_if_ge hx hb hd ht (fun h => kt ((I_le InI_0 hA).mp h) ls H locs hl hR hq) (fun h => kf (fun q => h ((I_le InI_0 hA).mpr q)) ls H locs hl hR hq)
theorem jlcmp_ge (hF : FX z l g nL cc own R) {a b off : Int} (tgt : Nat) (hd1 : decode cc pc = .ok (.lcmp, 1)) (hd : decode cc (pc + 1) = .ok (.ifCond .ge off, 3)) (ht : ((pc + 1 : Nat) : Int) + off = (tgt : Int)) (hA : InL a) (hB : InL b) (kt : b ≤ a → J z g nL cells slots Q tgt lo rest kd ln mem sz) (kf : ¬ (b ≤ a) → J z g nL cells slots Q (pc + 1 + 3) lo rest kd ln mem sz) : J z g nL cells slots Q pc lo ((1, b) :: (1, a) :: rest) kd ln mem sz := by
  obtain ⟨p, l, e, R', s, m, args, below, meth, c⟩ := z
  obtain ⟨hx, hb, -⟩ := hF
  intro ls H locs hl hR hq
  refine W.lcmp hx hb hd1 ?_
  exact lv_if_ge hx hb hd ht (fun h => kt ((L_le hB hA).mp ((lg_cmp_ge _ _).mp h)) ls H locs hl hR hq) (fun h => kf (fun q => h ((lg_cmp_ge _ _).mpr ((L_le hB hA).mpr q))) ls H locs hl hR hq)
theorem jicmp_gt (hF : FX z l g nL cc own R) {a b off : Int} (tgt : Nat) (hd : decode cc pc = .ok (.if_icmp .gt off, 3)) (ht : (pc : Int) + off = (tgt : Int)) (hA : InI a) (hB : InI b) (kt : b < a → J z g nL cells slots Q tgt lo rest kd ln mem sz) (kf : ¬ (b < a) → J z g nL cells slots Q (pc + 3) lo rest kd ln mem sz) : J z g nL cells slots Q pc lo ((0, b) :: (0, a) :: rest) kd ln mem sz := by
  obtain ⟨p, l, e, R', s, m, args, below, meth, c⟩ := z
  obtain ⟨hx, hb, -⟩ := hF
  intro ls H locs hl hR hq
  exact lv_icmp_gt hx hb hd ht (fun h => kt ((I_lt hB hA).mp h) ls H locs hl hR hq) (fun h => kf (fun q => h ((I_lt hB hA).mpr q)) ls H locs hl hR hq)
theorem jif_gt (hF : FX z l g nL cc own R) {a off : Int} (tgt : Nat) (hd : decode cc pc = .ok (.ifCond .gt off, 3)) (ht : (pc : Int) + off = (tgt : Int)) (hA : InI a) (kt : 0 < a → J z g nL cells slots Q tgt lo rest kd ln mem sz) (kf : ¬ (0 < a) → J z g nL cells slots Q (pc + 3) lo rest kd ln mem sz) : J z g nL cells slots Q pc lo ((0, a) :: rest) kd ln mem sz := by
  obtain ⟨p, l, e, R', s, m, args, below, meth, c⟩ := z
  obtain ⟨hx, hb, -⟩ := hF
  intro ls H locs hl hR hq
  exact lv_if_gt hx hb hd ht (fun h => kt ((I_lt InI_0 hA).mp h) ls H locs hl hR hq) (fun h => kf (fun q => h ((I_lt InI_0 hA).mpr q)) ls H locs hl hR hq)
theorem jlcmp_gt (hF : FX z l g nL cc own R) {a b off : Int} (tgt : Nat) (hd1 : decode cc pc = .ok (.lcmp, 1)) (hd : decode cc (pc + 1) = .ok (.ifCond .gt off, 3)) (ht : ((pc + 1 : Nat) : Int) + off = (tgt : Int)) (hA : InL a) (hB : InL b) (kt : b < a → J z g nL cells slots Q tgt lo rest kd ln mem sz) (kf : ¬ (b < a) → J z g nL cells slots Q (pc + 1 + 3) lo rest kd ln mem sz) : J z g nL cells slots Q pc lo ((1, b) :: (1, a) :: rest) kd ln mem sz := by
  obtain ⟨p, l, e, R', s, m, args, below, meth, c⟩ := z
  obtain ⟨hx, hb, -⟩ := hF
  intro ls H locs hl hR hq
  refine W.lcmp hx hb hd1 ?_
  exact lv_if_gt hx hb hd ht (fun h => kt ((L_lt hB hA).mp ((lg_cmp_gt _ _).mp h)) ls H locs hl hR hq) (fun h => kf (fun q => h ((lg_cmp_gt _ _).mpr ((L_lt hB hA).mpr q))) ls H locs hl hR hq)
theorem jicmp_le (hF : FX z l g nL cc own R) {a b off : Int} (tgt : Nat) (hd : decode cc pc = .ok (.if_icmp .le off, 3)) (ht : (pc : Int) + off = (tgt : Int)) (hA : InI a) (hB : InI b) (kt : a ≤ b → J z g nL cells slots Q tgt lo rest kd ln mem sz) (kf : ¬ (a ≤ b) → J z g nL cells slots Q (pc + 3) lo rest kd ln mem sz) : J z g nL cells slots Q pc lo ((0, b) :: (0, a) :: rest) kd ln mem sz := by
  obtain ⟨p, l, e, R', s, m, args, below, meth, c⟩ := z
  obtain ⟨hx, hb, -⟩ := hF
  intro ls H locs hl hR hq
  exact lv_icmp_le hx hb hd ht (fun h => kt ((I_le hA hB).mp h) ls H locs hl hR hq) (fun h => kf (fun q => h ((I_le hA hB).mpr q)) ls H locs hl hR hq)
theorem jif_le (hF : FX z l g nL cc own R) {a off : Int} (tgt : Nat) (hd : decode cc pc = .ok (.ifCond .le off, 3)) (ht : (pc : Int) + off = (tgt : Int)) (hA : InI a) (kt : a ≤ 0 → J z g nL cells slots Q tgt lo rest kd ln mem sz) (kf : ¬ (a ≤ 0) → J z g nL cells slots Q (pc + 3) lo rest kd ln mem sz) : J z g nL cells slots Q pc lo ((0, a) :: rest) kd ln mem sz := by
  obtain ⟨p, l, e, R', s, m, args, below, meth, c⟩ := z
  obtain ⟨hx, hb, -⟩ := hF
  intro ls H locs hl hR hq
  exact lv_if_le hx hb hd ht (fun h => kt ((I_le hA InI_0).mp h) ls H locs hl hR hq) (fun h => kf (fun q => h ((I_le hA InI_0).mpr q)) ls H locs hl hR hq)
theorem jlcmp_le (hF : FX z l g nL cc own R) {a b off : Int} (tgt : Nat) (hd1 : decode cc pc = .ok (.lcmp, 1)) (hd : decode cc (pc + 1) = .ok (.ifCond .le off, 3)) (ht : ((pc + 1 : Nat) : Int) + off = (tgt : Int)) (hA : InL a) (hB : InL b) (kt : a ≤ b → J z g nL cells slots Q tgt lo rest kd ln mem sz) (kf : ¬ (a ≤ b) → J z g nL cells slots Q (pc + 1 + 3) lo rest kd ln mem sz) : J z g nL cells slots Q pc lo ((1, b) :: (1, a) :: rest) kd ln mem sz := by
  obtain ⟨p, l, e, R', s, m, args, below, meth, c⟩ := z
  obtain ⟨hx, hb, -⟩ := hF
  intro ls H locs hl hR hq
  refine W.lcmp hx hb hd1 ?_
  exact lv_if_le hx hb hd ht (fun h => kt ((L_le hA hB).mp ((lg_cmp_le _ _).mp h)) ls H locs hl hR hq) (fun h => kf (fun q => h ((lg_cmp_le _ _).mpr ((L_le hA hB).mpr q))) ls H locs hl hR hq)
theorem jnull (hF : FX z l g nL cc own R) {a off : Int} (tgt : Nat) (hd : decode cc pc = .ok (.ifnull off, 3)) (ht : (pc : Int) + off = (tgt : Int)) (kt : a < 0 → J z g nL cells slots Q tgt lo rest kd ln mem sz) (kf : 0 ≤ a → J z g nL cells slots Q (pc + 3) lo rest kd ln mem sz) : J z g nL cells slots Q pc lo ((2, a) :: rest) kd ln mem sz := by
  obtain ⟨p, l, e, R', s, m, args, below, meth, c⟩ := z
  obtain ⟨hx, hb, -⟩ := hF
  intro ls H locs hl hR hq
  cases a with
  | ofNat a => exact lv_ifnull hx hb hd (kf (Int.natCast_nonneg a) ls H locs hl hR hq)
  | negSucc a => exact lv_ifnullN hx hb hd ht (kt (Int.negSucc_lt_zero a) ls H locs hl hR hq)
theorem jnonnull (hF : FX z l g nL cc own R) {a off : Int} (tgt : Nat) (hd : decode cc pc = .ok (.ifnonnull off, 3)) (ht : (pc : Int) + off = (tgt : Int)) (kt : 0 ≤ a → J z g nL cells slots Q tgt lo rest kd ln mem sz) (kf : a < 0 → J z g nL cells slots Q (pc + 3) lo rest kd ln mem sz) : J z g nL cells slots Q pc lo ((2, a) :: rest) kd ln mem sz := by
  obtain ⟨p, l, e, R', s, m, args, below, meth, c⟩ := z
  obtain ⟨hx, hb, -⟩ := hF
  intro ls H locs hl hR hq
  cases a with
  | ofNat a => exact lv_ifnonnull hx hb hd ht (kt (Int.natCast_nonneg a) ls H locs hl hR hq)
  | negSucc a => exact lv_ifnonnullN hx hb hd (kf (Int.negSucc_lt_zero a) ls H locs hl hR hq)
theorem ji2l (hF : FX z l g nL cc own R) {a : Int} (hd : decode cc pc = .ok (.i2l, 1)) (ha : InI a) (k : J z g nL cells slots Q (pc + 1) lo ((1, a) :: rest) kd ln mem sz) : J z g nL cells slots Q pc lo ((0, a) :: rest) kd ln mem sz := by
  obtain ⟨p, l, e, R', s, m, args, below, meth, c⟩ := z
  obtain ⟨hx, hb, -⟩ := hF
  exact fun ls H locs hl hR hq => lv_i2l hx hb hd (I_i2l ha) (k ls H locs hl hR hq)
theorem I_div {a b : Int} (ha : InI a) (hb : InI b) (h0 : b ≠ 0) : Int32.ofInt a / Int32.ofInt b = Int32.ofInt (a.tdiv b) := by
  have h := Int32.toInt_div (Int32.ofInt a) (Int32.ofInt b)
  rw [I_toInt ha, I_toInt hb] at h
  apply Int32.toInt_inj.mp
  rw [h, Int32.toInt_ofInt]
theorem L_div {a b : Int} (ha : InL a) (hb : InL b) (h0 : b ≠ 0) : Int64.ofInt a / Int64.ofInt b = Int64.ofInt (a.tdiv b) := by
  have h := Int64.toInt_div (Int64.ofInt a) (Int64.ofInt b)
  rw [L_toInt ha, L_toInt hb] at h
  apply Int64.toInt_inj.mp
  rw [h, Int64.toInt_ofInt]
theorem I_mod {a b : Int} (ha : InI a) (hb : InI b) (h0 : b ≠ 0) : Int32.ofInt a - Int32.ofInt a / Int32.ofInt b * Int32.ofInt b = Int32.ofInt (a.tmod b) := by
  rw [I_div ha hb h0, ← Int32.ofInt_mul, ← Int32.ofInt_sub, Int.tmod_def, Int.mul_comm]
theorem L_mod {a b : Int} (ha : InL a) (hb : InL b) (h0 : b ≠ 0) : Int64.ofInt a - Int64.ofInt a / Int64.ofInt b * Int64.ofInt b = Int64.ofInt (a.tmod b) := by
  rw [L_div ha hb h0, ← Int64.ofInt_mul, ← Int64.ofInt_sub, Int.tmod_def, Int.mul_comm]
theorem jidiv (hF : FX z l g nL cc own R) {a b : Int} (hd : decode cc pc = .ok (.idiv, 1)) (hA : InI a) (hB : InI b) (h0 : b ≠ 0) (k : J z g nL cells slots Q (pc + 1) lo ((0, a.tdiv b) :: rest) kd ln mem sz) : J z g nL cells slots Q pc lo ((0, b) :: (0, a) :: rest) kd ln mem sz := by
  obtain ⟨p, l, e, R', s, m, args, below, meth, c⟩ := z
  obtain ⟨hx, hb, -⟩ := hF
  intro ls H locs hl hR hq
  refine lv_idiv hx hb hd (fun h => h0 ((I_eq hB ⟨by omega, by omega⟩).mp h)) ?_
  have := k ls H locs hl hR hq
  rw [List.map_cons, show cv g (0, a.tdiv b) = .int (Int32.ofInt (a.tdiv b)) from rfl, ← I_div hA hB h0] at this
  exact this
theorem jidivN (hF : FX z l g nL cc own R) {a b : Int} (hd : decode cc pc = .ok (.idiv, 1)) (hA : 0 ≤ a ∧ InI a) (hB : 0 < b ∧ InI b) (k : J z g nL cells slots Q (pc + 1) lo ((0, a / b) :: rest) kd ln mem sz) : J z g nL cells slots Q pc lo ((0, b) :: (0, a) :: rest) kd ln mem sz := by
  refine jidiv hF hd hA.2 hB.2 (by omega) ?_
  rw [Int.tdiv_eq_ediv_of_nonneg hA.1]
  exact k
theorem jirem (hF : FX z l g nL cc own R) {a b : Int} (hd : decode cc pc = .ok (.irem, 1)) (hA : InI a) (hB : InI b) (h0 : b ≠ 0) (k : J z g nL cells slots Q (pc + 1) lo ((0, a.tmod b) :: rest) kd ln mem sz) : J z g nL cells slots Q pc lo ((0, b) :: (0, a) :: rest) kd ln mem sz := by
  obtain ⟨p, l, e, R', s, m, args, below, meth, c⟩ := z
  obtain ⟨hx, hb, -⟩ := hF
  intro ls H locs hl hR hq
  refine lv_irem hx hb hd (fun h => h0 ((I_eq hB ⟨by omega, by omega⟩).mp h)) ?_
  have := k ls H locs hl hR hq
  rw [List.map_cons, show cv g (0, a.tmod b) = .int (Int32.ofInt (a.tmod b)) from rfl, ← I_mod hA hB h0] at this
  exact this
theorem jiremN (hF : FX z l g nL cc own R) {a b : Int} (hd : decode cc pc = .ok (.irem, 1)) (hA : 0 ≤ a ∧ InI a) (hB : 0 < b ∧ InI b) (k : J z g nL cells slots Q (pc + 1) lo ((0, a % b) :: rest) kd ln mem sz) : J z g nL cells slots Q pc lo ((0, b) :: (0, a) :: rest) kd ln mem sz := by
  refine jirem hF hd hA.2 hB.2 (by omega) ?_
  rw [Int.tmod_eq_emod_of_nonneg hA.1]
  exact k
theorem jldiv (hF : FX z l g nL cc own R) {a b : Int} (hd : decode cc pc = .ok (.ldiv, 1)) (hA : InL a) (hB : InL b) (h0 : b ≠ 0) (k : J z g nL cells slots Q (pc + 1) lo ((1, a.tdiv b) :: rest) kd ln mem sz) : J z g nL cells slots Q pc lo ((1, b) :: (1, a) :: rest) kd ln mem sz := by
  obtain ⟨p, l, e, R', s, m, args, below, meth, c⟩ := z
  obtain ⟨hx, hb, -⟩ := hF
  intro ls H locs hl hR hq
  refine lv_ldiv hx hb hd (fun h => h0 ((L_eq hB ⟨by omega, by omega⟩).mp h)) ?_
  have := k ls H locs hl hR hq
  rw [List.map_cons, show cv g (1, a.tdiv b) = .long (Int64.ofInt (a.tdiv b)) from rfl, ← L_div hA hB h0] at this
  exact this
theorem jldivN (hF : FX z l g nL cc own R) {a b : Int} (hd : decode cc pc = .ok (.ldiv, 1)) (hA : 0 ≤ a ∧ InL a) (hB : 0 < b ∧ InL b) (k : J z g nL cells slots Q (pc + 1) lo ((1, a / b) :: rest) kd ln mem sz) : J z g nL cells slots Q pc lo ((1, b) :: (1, a) :: rest) kd ln mem sz := by
  refine jldiv hF hd hA.2 hB.2 (by omega) ?_
  rw [Int.tdiv_eq_ediv_of_nonneg hA.1]
  exact k
theorem jlrem (hF : FX z l g nL cc own R) {a b : Int} (hd : decode cc pc = .ok (.lrem, 1)) (hA : InL a) (hB : InL b) (h0 : b ≠ 0) (k : J z g nL cells slots Q (pc + 1) lo ((1, a.tmod b) :: rest) kd ln mem sz) : J z g nL cells slots Q pc lo ((1, b) :: (1, a) :: rest) kd ln mem sz := by
  obtain ⟨p, l, e, R', s, m, args, below, meth, c⟩ := z
  obtain ⟨hx, hb, -⟩ := hF
  intro ls H locs hl hR hq
  refine lv_lrem hx hb hd (fun h => h0 ((L_eq hB ⟨by omega, by omega⟩).mp h)) ?_
  have := k ls H locs hl hR hq
  rw [List.map_cons, show cv g (1, a.tmod b) = .long (Int64.ofInt (a.tmod b)) from rfl, ← L_mod hA hB h0] at this
  exact this
theorem jlremN (hF : FX z l g nL cc own R) {a b : Int} (hd : decode cc pc = .ok (.lrem, 1)) (hA : 0 ≤ a ∧ InL a) (hB : 0 < b ∧ InL b) (k : J z g nL cells slots Q (pc + 1) lo ((1, a % b) :: rest) kd ln mem sz) : J z g nL cells slots Q pc lo ((1, b) :: (1, a) :: rest) kd ln mem sz := by
  refine jlrem hF hd hA.2 hB.2 (by omega) ?_
  rw [Int.tmod_eq_emod_of_nonneg hA.1]
  exact k
end ROWS
