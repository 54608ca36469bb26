section CALLS
abbrev PT : Type := Option AV → (Int → Nat) → (Int → Int) → (Int → Int → Int) → Nat → Prop
def mkR (d mc ms : Nat) : Room := { frames := d, cells := mc, slots := ms, locals := 40 * d }
def QC (g : GP) (post : PT) : Array Value → State → Outcome → State → Prop := fun _ _ o t => ∃ (r : Option AV) (kd' : Int → Nat) (ln' : Int → Int) (mem' : Int → Int → Int) (sz' : Nat), o = .returned (r.map (cv g)) ∧ post r kd' ln' mem' sz' ∧ Rep g kd' ln' mem' sz' t.heap
def MT (l : Launch) (g : GP) (y : MethodName) (cc : ByteArray) (nL : Nat) (ret : Option FieldType) (d mc ms : Nat) (as : List AV) (kd : Int → Nat) (ln : Int → Int) (mem : Int → Int → Int) (sz : Nat) (post : PT) : Prop :=
  Met l y [.code y cc nL ret] (mkR d mc ms) (va_Pc (as.map (cv g)) (fun U => (gs g).WarmedH U.vm ∧ Rep g kd ln mem sz U.heap)) (QC g post) mc ms (fun q => gb g ≤ q)
def QM (z : ZT) (g : GP) (mc ms : Nat) (post : PT) : State → Prop := match z with
  | (_, _, _, _, s, _, args, below, _, _) => MQ below (QC g post) args s mc ms (fun q => gb g ≤ q)
def RT (z : ZT) (ret : Option FieldType) : Prop := match z with
  | (_, _, _, _, _, _, _, _, meth, _) => meth.sig.returnType = ret
def NM (z : ZT) (nm : String) : Prop := match z with
  | (_, _, _, _, _, _, _, _, meth, _) => meth.name = nm
def largs : Nat → List AV → List (Nat × AV)
  | _, [] => []
  | i, v :: vs => (i, v) :: largs (if v.1 = 1 then i + 2 else i + 1) vs
def asz : List AV → Nat
  | [] => 0
  | v :: vs => (if v.1 = 1 then 2 else 1) + asz vs
theorem asz_c (v : AV) (vs : List AV) : asz (v :: vs) = (if v.1 = 1 then 2 else 1) + asz vs := rfl
theorem cv_cat2 (g : GP) (v : AV) : ((cv g v).category = 2) ↔ v.1 = 1 := by
  have h := cv_cat g v
  constructor
  · intro h1
    rw [h1] at h
    simpa using h.symm
  · intro h1
    rw [h1] at h
    simpa using h
theorem cl_largs (g : GP) (as : List AV) : ∀ i : Nat, cl g (largs i as) = lv_args i (as.map (cv g)) := by
  induction as with
  | nil => intro i; rfl
  | cons v vs ih =>
    intro i
    unfold largs
    show (i, cv g v) :: cl g (largs _ vs) = _
    rw [ih]
    show _ = (i, cv g v) :: lv_args _ _
    by_cases h : v.1 = 1
    · rw [if_pos h, if_pos ((cv_cat2 g v).mpr h)]
    · rw [if_neg h, if_neg (fun q => h ((cv_cat2 g v).mp q))]
theorem asz_sl (g : GP) (as : List AV) : (lg_sl (as.map (cv g))).length = asz as := by
  induction as with
  | nil => rfl
  | cons v vs ih =>
    unfold lg_sl at ih ⊢
    rw [List.map_cons, List.flatMap_cons, List.length_append, ih, asz_c]
    by_cases h : v.1 = 1
    · rw [if_pos h, if_pos ((cv_cat2 g v).mpr h)]; rfl
    · rw [if_neg h, if_neg (fun q => h ((cv_cat2 g v).mp q))]; rfl
theorem asz_w (g : GP) (as : List AV) : ((as.map (cv g)).map fun v => v.category).sum = asz as := by
  induction as with
  | nil => rfl
  | cons v vs ih =>
    rw [List.map_cons, List.map_cons, List.sum_cons, ih, asz_c]
    by_cases h : v.1 = 1
    · rw [if_pos h, (cv_cat2 g v).mpr h]
    · rw [if_neg h, av_c1 h]
theorem MT_of {l : Launch} {g : GP} {y : MethodName} {cc : ByteArray} {nL : Nat} {ret : Option FieldType} {d mc ms : Nat} {as : List AV} {kd : Int → Nat} {ln : Int → Int} {mem : Int → Int → Int} {sz : Nat} {post : PT} (hG : GH g) (hy : plainName y.cls = true) (hn : asz as ≤ nL)
    (body : ∀ z : ZT, FX z l g nL cc y.cls (mkR d mc ms) → RT z ret → NM z y.name → J z g nL 0 0 (QM z g mc ms post) 0 (largs 0 as) [] kd ln mem sz) : MT l g y cc nL ret d mc ms as kd ln mem sz post := by
  refine Met.ofW (cc := cc) (maxL := nL) (ret := ret) hy rfl ?_
  intro p e s m args below meth c s₁ B hml hv
  obtain ⟨rfl, hW, hR⟩ := hv
  have hbody := body (p, l, e, mkR d mc ms, s, m, (as.map (cv g)).toArray, below, meth, c) ⟨B.exec, B.bytes, hml, findClass_of_methodNamed B.named, hW, hG, B.notSynchronized, rfl, rfl⟩ B.returns (name_of_methodNamed B.named B.method).1
  have hl := lv_entry (as.map (cv g)) (n := nL) (by rw [asz_sl]; exact hn)
  rw [lg_entry_eq]
  exact hbody _ _ [] (by rw [cl_largs]; exact hl) hR (fun q hq => by simp at hq)
theorem MT_ofF {l : Launch} {g : GP} {y : MethodName} {cc : ByteArray} {nL : Nat} {ret : Option FieldType} {d mc ms : Nat} {as : List AV} {kd : Int → Nat} {ln : Int → Int} {mem : Int → Int → Int} {sz : Nat} {post : PT} (hG : GH g) (hy : plainFor y = true) (hn : asz as ≤ nL)
    (body : ∀ z : ZT, FX z l g nL cc y.cls (mkR d mc ms) → RT z ret → NM z y.name → J z g nL 0 0 (QM z g mc ms post) 0 (largs 0 as) [] kd ln mem sz) : MT l g y cc nL ret d mc ms as kd ln mem sz post := by
  unfold MT Met
  refine MetFree.of_bodySF (code := cc) (maxLocals := nL) (ret := ret) hy ?_ ?_
  · intro args s m h hn
    obtain ⟨meth, c, h1, h2, h3, h4, h5, h6, -, -⟩ := Cond.code_spec hn (atoms_spec (ws := [Cond.code y cc nL ret]) h _ List.mem_cons_self)
    exact ⟨meth, c, h1, h2, h3, h4, h5, h6⟩
  · intro p e s m args below meth c s₁ B hml hv _
    obtain ⟨rfl, hW, hR⟩ := hv
    have hbody := body (p, l, e, mkR d mc ms, s, m, (as.map (cv g)).toArray, below, meth, c) ⟨B.exec, B.bytes, hml, findClass_of_methodNamed B.named, hW, hG, B.notSynchronized, rfl, rfl⟩ B.returns (name_of_methodNamed B.named B.method).1
    have hl := lv_entry (as.map (cv g)) (n := nL) (by rw [asz_sl]; exact hn)
    have hh0 : s₁.heap = s.heap := by rw [B.state]; rfl
    rw [lg_entry_eq]
    obtain ⟨t, a1, o, b1, b2, b3⟩ := hbody _ _ [] (by rw [cl_largs]; exact hl) hR (fun q hq => by simp at hq) s₁ hh0 (Stand.of_body B)
    exact ⟨t, o, a1, b1, b2, ⟨b3.1, b3.2⟩⟩
section RET
variable {z : ZT} {l : Launch} {g : GP} {nL : Nat} {mc ms : Nat} {post : PT} {pc : Nat} {lo : List (Nat × AV)} {kd : Int → Nat} {ln : Int → Int} {mem : Int → Int → Int} {sz : Nat} {cc : ByteArray} {own : String} {R : Room}
theorem jiret (hF : FX z l g nL cc own R) (hr : RT z (some .int)) {v : Int} (hd : decode cc pc = .ok (.ireturn, 1)) (hp : post (some (0, v)) kd ln mem sz) : J z g nL mc ms (QM z g mc ms post) pc lo [(0, v)] kd ln mem sz := by
  obtain ⟨p, l', e, R', s, m, args, below, meth, cd⟩ := z
  obtain ⟨hx, hb, hml, hown, hW, hG, hlk, -⟩ := hF
  intro ls H locs hl hR hq
  exact W.iret (Qc := QC g post) (free := fun q => gb g ≤ q) (v := Int32.ofInt v) hx hb hr (fun t ht hW => ⟨some (0, v), kd, ln, mem, sz, rfl, hp, by rw [ht]; exact hR⟩) hq hd hlk
theorem jzret (hF : FX z l g nL cc own R) (hr : RT z (some .boolean)) {v : Int} (hv : v = 0 ∨ v = 1) (hd : decode cc pc = .ok (.ireturn, 1)) (hp : post (some (0, v)) kd ln mem sz) : J z g nL mc ms (QM z g mc ms post) pc lo [(0, v)] kd ln mem sz := by
  obtain ⟨p, l', e, R', s, m, args, below, meth, cd⟩ := z
  obtain ⟨hx, hb, hml, hown, hW, hG, hlk, -⟩ := hF
  intro ls H locs hl hR hq
  exact W.zret (Qc := QC g post) (free := fun q => gb g ≤ q) (v := Int32.ofInt v) (ty := .boolean) hx hb hr (by rcases hv with rfl | rfl <;> rfl) (fun t ht hW => ⟨some (0, v), kd, ln, mem, sz, rfl, hp, by rw [ht]; exact hR⟩) hq hd hlk
theorem jlret (hF : FX z l g nL cc own R) (hr : RT z (some .long)) {v : Int} (hd : decode cc pc = .ok (.lreturn, 1)) (hp : post (some (1, v)) kd ln mem sz) : J z g nL mc ms (QM z g mc ms post) pc lo [(1, v)] kd ln mem sz := by
  obtain ⟨p, l', e, R', s, m, args, below, meth, cd⟩ := z
  obtain ⟨hx, hb, hml, hown, hW, hG, hlk, -⟩ := hF
  intro ls H locs hl hR hq
  exact W.lret (Qc := QC g post) (free := fun q => gb g ≤ q) (v := Int64.ofInt v) hx hb hr (fun t ht hW => ⟨some (1, v), kd, ln, mem, sz, rfl, hp, by rw [ht]; exact hR⟩) hq hd hlk
theorem jvret (hF : FX z l g nL cc own R) (hr : RT z none) (hd : decode cc pc = .ok (.return_, 1)) (hp : post none kd ln mem sz) : J z g nL mc ms (QM z g mc ms post) pc lo [] kd ln mem sz := by
  obtain ⟨p, l', e, R', s, m, args, below, meth, cd⟩ := z
  obtain ⟨hx, hb, hml, hown, hW, hG, hlk, -⟩ := hF
  intro ls H locs hl hR hq
  exact W.vret (Qc := QC g post) (free := fun q => gb g ≤ q) hx hb hr (fun t ht hW => ⟨none, kd, ln, mem, sz, rfl, hp, by rw [ht]; exact hR⟩) hq hd hlk
theorem jaret (hF : FX z l g nL cc own R) {rt : FieldType} (hr : RT z (some rt)) (hrt : (∃ n, rt = .object n) ∨ ∃ t, rt = .array t) {v : Int} (hd : decode cc pc = .ok (.areturn, 1)) (hp : post (some (2, v)) kd ln mem sz) : J z g nL mc ms (QM z g mc ms post) pc lo [(2, v)] kd ln mem sz := by
  obtain ⟨p, l', e, R', s, m, args, below, meth, cd⟩ := z
  obtain ⟨hx, hb, hml, hown, hW, hG, hlk, -⟩ := hF
  intro ls H locs hl hR hq
  exact W.aret (Qc := QC g post) (free := fun q => gb g ≤ q) (v := cR g v) hx hb hr hrt (by cases v; exact Or.inr ⟨_, rfl⟩; exact Or.inl rfl) (fun t ht hW => ⟨some (2, v), kd, ln, mem, sz, rfl, hp, by rw [ht]; exact hR⟩) hq hd hlk
end RET
section CALL
variable {z : ZT} {l : Launch} {g : GP} {nL : Nat} {cells slots : Nat} {Q : State → Prop} {pc : Nat} {lo : List (Nat × AV)} {st : List AV} {kd : Int → Nat} {ln : Int → Int} {mem : Int → Int → Int} {sz : Nat} {cc : ByteArray} {own : String} {R : Room}
variable {y : MethodName} {cy : ByteArray} {nLy : Nat} {ret : Option FieldType} {d mc ms : Nat} {as : List AV} {post : PT} {n : Nat}
theorem MW.len (h : MW y cy nLy ret n) : ∀ sig, parseMethodDescriptor y.desc = some sig → n = sig.parameters.length := fun sig e => by
  have h2 := h.2.1
  rw [e] at h2
  exact (Option.some.inj h2).symm
theorem blindP : FrameBlind (va_Pc (as.map (cv g)) (fun U => (gs g).WarmedH U.vm ∧ Rep g kd ln mem sz U.heap)) := fun _ _ _ _ q => q
theorem jrun {p : Program} {e : Env} {s : State} {m : MethodId} {args : Array Value} {below : List Frame} {meth : Method} {c : Code} {rest : List AV} {a : Array Value}
    (hr : ∀ (ls : Array Slot) (H : Heap) (locs : List Loc), lv_has ls nL (cl g lo) → Rep g kd ln mem sz H → va_Run p l e R s m args below meth c H locs cells slots mc ms (F0 m pc ls (st.map (cv g))) (rest.map (cv g)) (QC g post a) (fun q => gb g ≤ q))
    (kk : ∀ (r : Option AV) (kd' : Int → Nat) (ln' : Int → Int) (mem' : Int → Int → Int) (sz' : Nat), post r kd' ln' mem' sz' → J (p, l, e, R, s, m, args, below, meth, c) g nL (cells + mc) (slots + ms) Q (pc + 3) lo (r.toList ++ rest) kd' ln' mem' sz') : J (p, l, e, R, s, m, args, below, meth, c) g nL cells slots Q pc lo st kd ln mem sz := by
  intro ls H locs hl hR hq T hT X
  obtain ⟨v, st₀, t, T', L, h0, X', hL, e1, e2, ⟨r, kd', ln', mem', sz', h1, h2, h3⟩, hst⟩ := hr ls H locs hl hR T hT X
  cases h1
  obtain ⟨t2, a1, b1⟩ := kk r kd' ln' mem' sz' h2 ls T'.heap (locs ++ L) hl (by rw [e1]; exact h3) (fun q hq' => (List.mem_append.mp hq').elim (hq q) (hL q)) T' rfl X'
  refine ⟨t2, hst t2 ?_, b1⟩
  have e : (r.map (cv g)).toList ++ rest.map (cv g) = (r.toList ++ rest).map (cv g) := by cases r <;> rfl
  show Steps p.tables _ below (T'.setTop { (F0 m pc ls (st.map (cv g))) with pc := pc + 3, stack := (r.map (cv g)).toList ++ rest.map (cv g) }) t2
  rw [e]
  exact a1
theorem nestW {g : GP} {s : State} {args : Array Value} (hG : GH g) (hW : (gs g).WarmedH s.vm) {o : String} {i : Nat} {x : MethodName} {h : String} (hm : Cond.methodLinkNest o i x h ∈ lw_tbl) : (Cond.methodLinkNest o i x h).before args s = true :=
  va_Nw.use rfl (va_Nw.warmM hW (va_Nw.of rfl (hG.1 _ hm)))
theorem jcallS (hF : FX z l g nL cc own R) (hM : MT l g y cy nLy ret d mc ms as kd ln mem sz post) (hw : MW y cy nLy ret n) {index : Nat} (hl : Cond.methodLink own index y ∈ lw_tbl) (hs : Cond.static y ∈ lw_tbl) (hd : decode cc pc = .ok (.invokestatic index, 3)) (rest : List AV) (hst : st = as.reverse ++ rest) (hn : as.length = n)
    (hroom : d + 1 ≤ R.frames ∧ 8 + (nLy + 11) + 40 * d ≤ R.locals) (hwt : asz rest ≤ 8) (hcs : cells + mc ≤ R.cells ∧ slots + ms ≤ R.slots)
    (kk : ∀ (r : Option AV) (kd' : Int → Nat) (ln' : Int → Int) (mem' : Int → Int → Int) (sz' : Nat), post r kd' ln' mem' sz' → J z g nL (cells + mc) (slots + ms) Q (pc + 3) lo (r.toList ++ rest) kd' ln' mem' sz') : J z g nL cells slots Q pc lo st kd ln mem sz := by
  obtain ⟨p, l', e, R', s, m, args, below, meth, c⟩ := z
  obtain ⟨hx, hb, hml, hown, hW, hG, hlk, rfl, rfl⟩ := hF
  refine jrun (a := (as.map (cv g)).toArray) (rest := rest) (fun ls H locs hls hR => ?_) kk
  refine va_runS (Ts := []) (n := n) ⟨hx, hb, hml, hown, fun w h => by simp at h⟩ hM ⟨⟨rfl, rfl, hroom.1, hroom.2, fun w h a' U hWU => ?_, List.mem_cons_self, hts_at hG hW hw.2.2.1 rfl, hts_at hG hW hw.2.2.2 rfl, hw.1, hw.len, hts_at hG hW hl rfl⟩, hts_at hG hW hs rfl⟩ ⟨blindP, fun U hU hWU => ⟨rfl, State.WarmedH.trans hW hWU, by rw [hU]; exact hR⟩⟩ rfl (by rw [List.length_map]; exact hn) hls.1 ?_ ?_ hd hcs
  · rw [List.mem_singleton.mp h]
    exact hts_at hG (State.WarmedH.trans hW hWU) hw.2.2.1 rfl
  · show st.map (cv g) = _
    rw [hst]
    simp
  · rw [asz_w]
    show 2 * 0 + _ ≤ 8
    omega
theorem jcallSN (hF : FX z l g nL cc own R) (hM : MT l g y cy nLy ret d mc ms as kd ln mem sz post) (hw : MW y cy nLy ret n) {index : Nat} {host : String} (hl : Cond.methodLinkNest own index y host ∈ lw_tbl) (hs : Cond.static y ∈ lw_tbl) (hd : decode cc pc = .ok (.invokestatic index, 3)) (rest : List AV) (hst : st = as.reverse ++ rest) (hn : as.length = n)
    (hroom : d + 1 ≤ R.frames ∧ 8 + (nLy + 11) + 40 * d ≤ R.locals) (hwt : asz rest ≤ 8) (hcs : cells + mc ≤ R.cells ∧ slots + ms ≤ R.slots)
    (kk : ∀ (r : Option AV) (kd' : Int → Nat) (ln' : Int → Int) (mem' : Int → Int → Int) (sz' : Nat), post r kd' ln' mem' sz' → J z g nL (cells + mc) (slots + ms) Q (pc + 3) lo (r.toList ++ rest) kd' ln' mem' sz') : J z g nL cells slots Q pc lo st kd ln mem sz := by
  obtain ⟨p, l', e, R', s, m, args, below, meth, c⟩ := z
  obtain ⟨hx, hb, hml, hown, hW, hG, hlk, rfl, rfl⟩ := hF
  refine jrun (a := (as.map (cv g)).toArray) (rest := rest) (fun ls H locs hls hR => ?_) kk
  refine va_runSN (Ts := []) (n := n) (host := host) ⟨hx, hb, hml, hown, fun w h => by simp at h⟩ hM ⟨⟨⟨rfl, rfl, hroom.1, hroom.2, fun w h a' U hWU => ?_, List.mem_cons_self⟩, hts_at hG hW hw.2.2.1 rfl, hts_at hG hW hw.2.2.2 rfl, hw.1, hw.len, nestW hG hW hl⟩, hts_at hG hW hs rfl, trivial⟩ ⟨blindP, fun U hU hWU => ⟨rfl, State.WarmedH.trans hW hWU, by rw [hU]; exact hR⟩⟩ rfl (by rw [List.length_map]; exact hn) hls.1 ?_ ?_ hd hcs
  · rw [List.mem_singleton.mp h]
    exact hts_at hG (State.WarmedH.trans hW hWU) hw.2.2.1 rfl
  · show st.map (cv g) = _
    rw [hst]
    simp
  · rw [asz_w]
    show 2 * 0 + _ ≤ 8
    omega
theorem recvOK {s : State} (hG : GH g) (hW : (gs g).WarmedH s.vm) {b : Int} {H : Heap} (hR : Rep g kd ln mem sz H) {c : Nat} (hc : c < 14) (hb : kd b = c + 1) : ∃ k : Nat, b = k ∧ ∃ cellB : Cell, H[adr g k]? = some cellB ∧ cellB.vm.isStatics = false ∧ s.vm.findClass (cRec c).1 = some cellB.cls := by
  obtain ⟨a0, a1⟩ := hR.2.2.2.2.1 b (by rw [hb]; omega)
  obtain ⟨k, rfl⟩ := Int.eq_ofNat_of_zero_le a0
  refine ⟨k, rfl, ?_⟩
  obtain ⟨cell, q1, q2, q3, q4⟩ := (hR.2.2.2.1 k (by omega)).1 c hb hc
  refine ⟨cell, q1, by rw [q3]; rfl, ?_⟩
  rw [q2]
  exact (u_Kn_moved hW.alike (hG.2.1 c _ (CK_all c hc).1)).2.1
theorem jcallV (hF : FX z l g nL cc own R) {b : Int} (hM : MT l g y cy nLy ret d mc ms ((2, b) :: as) kd ln mem sz post) (hw : MW y cy nLy ret n) (c : Nat) (hc : c < 14) (hbk : kd b = c + 1) {index : Nat} (hl : Cond.methodLink own index y ∈ lw_tbl) (hi : Cond.instanceMethod y ∈ lw_tbl) (hs : Cond.selects (cRec c).1 y y ∈ lw_tbl) (hd : decode cc pc = .ok (.invokevirtual index, 3)) (rest : List AV) (hst : st = as.reverse ++ (2, b) :: rest) (hn : as.length = n)
    (hroom : d + 1 ≤ R.frames ∧ 8 + (nLy + 11) + 40 * d ≤ R.locals) (hwt : asz rest ≤ 8) (hcs : cells + mc ≤ R.cells ∧ slots + ms ≤ R.slots)
    (kk : ∀ (r : Option AV) (kd' : Int → Nat) (ln' : Int → Int) (mem' : Int → Int → Int) (sz' : Nat), post r kd' ln' mem' sz' → J z g nL (cells + mc) (slots + ms) Q (pc + 3) lo (r.toList ++ rest) kd' ln' mem' sz') : J z g nL cells slots Q pc lo st kd ln mem sz := by
  obtain ⟨p, l', e, R', s, m, args, below, meth, cd⟩ := z
  obtain ⟨hx, hb, hml, hown, hW, hG, hlk, rfl, rfl⟩ := hF
  refine jrun (a := (((2, b) :: as).map (cv g)).toArray) (rest := rest) (fun ls H locs hls hR => ?_) kk
  obtain ⟨k, rfl, hcell⟩ := recvOK (s := s) hG hW hR hc hbk
  refine va_runV (Ts := []) (n := n) (C := (cRec c).1) (b := adr g k) (As := as.map (cv g)) ⟨hx, hb, hml, hown, fun w h => by simp at h⟩ hM ⟨⟨rfl, rfl, hroom.1, hroom.2, fun w h a' U hWU => ?_, List.mem_cons_self, hts_at hG hW hw.2.2.1 rfl, hts_at hG hW hw.2.2.2 rfl, hw.1, hw.len, hts_at hG hW hl rfl⟩, hts_at hG hW hi rfl, hts_at hG hW hs rfl⟩ ⟨blindP, hcell, fun U hU hWU => ⟨rfl, State.WarmedH.trans hW hWU, by rw [hU]; exact hR⟩⟩ rfl (by rw [List.length_map]; exact hn) hls.1 ?_ ?_ hd hcs
  · rw [List.mem_singleton.mp h]
    exact hts_at hG (State.WarmedH.trans hW hWU) hw.2.2.1 rfl
  · show st.map (cv g) = _
    rw [hst]
    simp
    rfl
  · rw [asz_w]
    show 2 * 0 + _ ≤ 8
    omega
theorem jcallI (hF : FX z l g nL cc own R) {b : Int} (hM : MT l g y cy nLy none d mc ms ((2, b) :: as) kd ln mem sz post) (hw : MW y cy nLy none n) (hy1 : y.name = "<init>") (hb0 : 0 ≤ b) {index : Nat} (hl : Cond.methodLink own index y ∈ lw_tbl) (hi : Cond.instanceMethod y ∈ lw_tbl) (hd : decode cc pc = .ok (.invokespecial index, 3)) (rest : List AV) (hst : st = as.reverse ++ (2, b) :: rest) (hn : as.length = n)
    (hroom : d + 1 ≤ R.frames ∧ 8 + (nLy + 11) + 40 * d ≤ R.locals) (hwt : asz rest ≤ 8) (hcs : cells + mc ≤ R.cells ∧ slots + ms ≤ R.slots)
    (kk : ∀ (r : Option AV) (kd' : Int → Nat) (ln' : Int → Int) (mem' : Int → Int → Int) (sz' : Nat), post r kd' ln' mem' sz' → J z g nL (cells + mc) (slots + ms) Q (pc + 3) lo (r.toList ++ rest) kd' ln' mem' sz') : J z g nL cells slots Q pc lo st kd ln mem sz := by
  obtain ⟨p, l', e, R', s, m, args, below, meth, cd⟩ := z
  obtain ⟨hx, hb, hml, hown, hW, hG, hlk, rfl, rfl⟩ := hF
  obtain ⟨k, rfl⟩ := Int.eq_ofNat_of_zero_le hb0
  refine jrun (a := (((2, (k : Int)) :: as).map (cv g)).toArray) (rest := rest) (fun ls H locs hls hR => ?_) kk
  refine va_runI (Ts := []) (n := n) (b := adr g k) (As := as.map (cv g)) ⟨hx, hb, hml, hown, fun w h => by simp at h⟩ hM ⟨⟨rfl, rfl, hroom.1, hroom.2, fun w h a' U hWU => ?_, List.mem_cons_self, hts_at hG hW hw.2.2.1 rfl, hts_at hG hW hw.2.2.2 rfl, hw.1, hw.len, hts_at hG hW hl rfl⟩, hy1, hts_at hG hW hi rfl⟩ ⟨blindP, fun U hU hWU => ⟨rfl, State.WarmedH.trans hW hWU, by rw [hU]; exact hR⟩⟩ rfl (by rw [List.length_map]; exact hn) hls.1 ?_ ?_ hd hcs
  · rw [List.mem_singleton.mp h]
    exact hts_at hG (State.WarmedH.trans hW hWU) hw.2.2.1 rfl
  · show st.map (cv g) = _
    rw [hst]
    simp
    rfl
  · rw [asz_w]
    show 2 * 0 + _ ≤ 8
    omega
theorem jobj (hF : FX z l g nL cc own R) {b : Int} (hb0 : 0 ≤ b) {index : Nat} {rest : List AV} (hl : Cond.methodLink own index objectInit ∈ lw_tbl) (hi : Cond.instanceMethod objectInit ∈ lw_tbl) (hc : Cond.code objectInit ⟨#[0xb1]⟩ 1 none ∈ lw_tbl) (hd : decode cc pc = .ok (.invokespecial index, 3)) (hroom : 1 ≤ R.frames ∧ asz rest + 12 ≤ R.locals)
    (kk : J z g nL cells slots Q (pc + 3) lo rest kd ln mem sz) : J z g nL cells slots Q pc lo ((2, b) :: rest) kd ln mem sz := by
  obtain ⟨p, l', e, R', s, m, args, below, meth, cd⟩ := z
  obtain ⟨hx, hb, hml, hown, hW, hG, hlk, rfl, rfl⟩ := hF
  obtain ⟨k, rfl⟩ := Int.eq_ofNat_of_zero_le hb0
  intro ls H locs hls hR hq
  refine W.objInit (a := adr g k) (rest := rest.map (cv g)) hx hb hown (hts_at hG hW hl rfl) (hts_at hG hW hi rfl) (hts_at hG hW hc rfl) rfl (by rw [hml]; exact hls.1) rfl hd hroom.1 ?_ (kk ls H locs hls hR hq)
  rw [asz_w]
  show 2 * 0 + _ + 12 ≤ _
  omega
end CALL
end CALLS
