section LAWR
/-! rows of the law's own walk -/
variable {z : ZT} {l : Launch} {g : GP} {nL : Nat} {cells slots : Nat} {Q : State → Prop} {pc : Nat} {lo : List (Nat × AV)} {rest : List AV} {kd : Int → Nat} {ln : Int → Int} {mem : Int → Int → Int} {sz : Nat} {cc : ByteArray} {own : String} {R : Room}
/-- the script: L ints -/
def SCR (g : GP) (L : Int) (S : Int → Int) : Prop := arrOK g 0 L S (adr g 2) (gs g).heap ∧ ∀ j : Int, InI (S j)
theorem SCR.h {L : Int} {S : Int → Int} {H : Heap} (hS : SCR g L S) (hG : GH g) (hR : Rep g kd ln mem sz H) : arrOK g 0 L S (adr g 2) H := by
  have h2 : adr g 2 < gb g := hG.2.2.2.2
  unfold arrOK
  rw [hR.2.2.1 _ h2]
  exact hS.1
theorem jsld (hF : FX z l g nL cc own R) {L : Int} {S : Int → Int} (hS : SCR g L S) {i : Int} (hd : decode cc pc = .ok (.iaload, 1)) (h0 : 0 ≤ i) (h1 : i < L) (kk : J z g nL cells slots Q (pc + 1) lo ((0, S i) :: rest) kd ln mem sz) : J z g nL cells slots Q pc lo ((0, i) :: (2, 2) :: rest) kd ln mem sz := by
  obtain ⟨p, l', e, R', s, m, args, below, meth, cd⟩ := z
  obtain ⟨hx, hb, hml, hown, hW, hG, -⟩ := hF
  intro ls H locs hl hR hq
  obtain ⟨cell, q1, q2, q3, q4, q5, q6⟩ := (hS.h hG hR).at h0 h1
  exact W.iald (a := adr g 2) (v := cv g (0, S i)) hx hb q1 (isA hW q2) q3 q4 q6 rfl rfl hd (kk ls H locs hl hR hq)
theorem jslen (hF : FX z l g nL cc own R) {L : Int} {S : Int → Int} (hS : SCR g L S) (hd : decode cc pc = .ok (.arraylength, 1)) (kk : J z g nL cells slots Q (pc + 1) lo ((0, L) :: rest) kd ln mem sz) : J z g nL cells slots Q pc lo ((2, 2) :: rest) kd ln mem sz := by
  obtain ⟨p, l', e, R', s, m, args, below, meth, cd⟩ := z
  obtain ⟨hx, hb, hml, hown, hW, hG, -⟩ := hF
  intro ls H locs hl hR hq
  obtain ⟨cell, q1, q2, q3, q4, q5, q6⟩ := hS.h hG hR
  refine W.alen (n := Int32.ofInt L) hx hb q1 (isA hW q2) ?_ rfl rfl hd (kk ls H locs hl hR hq)
  rw [← q4]
  apply Int32.toInt_inj.mp
  rw [I_toInt ⟨by omega, by omega⟩]
  exact nI_toInt (by omega)
theorem jeqI (hF : FX z l g nL cc own R) {a b off : Int} (tgt : Nat) (hd : decode cc pc = .ok (.if_icmp .eq off, 3)) (ht : (pc : Int) + off = (tgt : Int)) (h : a = b) (kt : J z g nL cells slots Q tgt lo rest kd ln mem sz) : J z g nL cells slots Q pc lo ((0, b) :: (0, a) :: rest) kd ln mem sz := by
  subst h
  obtain ⟨p, l, e, R', s, m, args, below, meth, c⟩ := z
  obtain ⟨hx, hb, -⟩ := hF
  intro ls H locs hl hR hq
  exact lv_icmp_eq hx hb hd ht (fun _ => kt ls H locs hl hR hq) (fun h => absurd rfl h)
theorem jeqL (hF : FX z l g nL cc own R) {a b off : Int} (tgt : Nat) (hd1 : decode cc pc = .ok (.lcmp, 1)) (hd : decode cc (pc + 1) = .ok (.ifCond .eq off, 3)) (ht : ((pc + 1 : Nat) : Int) + off = (tgt : Int)) (h : a = b) (kt : J z g nL cells slots Q tgt lo rest kd ln mem sz) : J z g nL cells slots Q pc lo ((1, b) :: (1, a) :: rest) kd ln mem sz :=
  jlcmpW_eq hF tgt hd1 hd ht (fun _ => kt) (fun q => absurd (by rw [h]) q)
theorem kBw {c : Prop} (h : ∀ b : Int, ((b = 1 ∧ c) ∨ (b = 0 ∧ ¬ c)) → J z g nL cells slots Q pc lo ((0, b) :: rest) kd ln mem sz) : ∀ (r : Option AV) (kd' : Int → Nat) (ln' : Int → Int) (mem' : Int → Int → Int) (sz' : Nat), pB c kd ln mem sz r kd' ln' mem' sz' → J z g nL cells slots Q pc lo (r.toList ++ rest) kd' ln' mem' sz' := by
  rintro r _ _ _ _ ⟨⟨b, rfl, w⟩, rfl, rfl, rfl, rfl⟩
  exact h b w
theorem kMBw {P : Prop → (Int → Int → Int) → Prop} (h : ∀ (b : Int) (mem' : Int → Int → Int), ((b = 1 ∧ P True mem') ∨ (b = 0 ∧ P False mem')) → J z g nL cells slots Q pc lo ((0, b) :: rest) kd ln mem' sz) : ∀ (r : Option AV) (kd' : Int → Nat) (ln' : Int → Int) (mem' : Int → Int → Int) (sz' : Nat), pMB P kd ln sz r kd' ln' mem' sz' → J z g nL cells slots Q pc lo (r.toList ++ rest) kd' ln' mem' sz' := by
  rintro r _ _ m _ ⟨⟨b, rfl, w⟩, rfl, rfl, rfl⟩
  exact h b m w
end LAWR
