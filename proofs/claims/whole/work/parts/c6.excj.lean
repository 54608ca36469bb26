section EXCJ
/-! a throw inside the Int machine, and its catching in the law's helpers -/
/-- cells that nobody knows come on top -/
theorem Rep.grow {g : GP} {kd : Int → Nat} {ln : Int → Int} {mem : Int → Int → Int} {sz : Nat} {H H' : Heap} (hG : GH g) (h : Rep g kd ln mem sz H) (hz : H.size ≤ H'.size) (ho : ∀ q : Nat, q < H.size → H'[q]? = H[q]?) : Rep g kd ln mem (sz + (H'.size - H.size)) H' := by
  obtain ⟨q1, q2, q3, q4, q5, q6, q7, q8⟩ := h
  refine ⟨by omega, by omega, fun q hq => ?_, fun b hb => ?_, fun b hb => ?_, q6, q7, q8⟩
  · rw [ho q (by omega)]
    exact q3 q hq
  · by_cases e : b < sz
    · refine (q4 b e).same (ho _ ?_) rfl rfl rfl
      rcases Nat.lt_or_ge b 3 with hb3 | hb3
      · obtain ⟨-, -, g0, g1, g2⟩ := hG
        match b, hb3 with
        | 0, _ => omega
        | 1, _ => omega
        | 2, _ => omega
      · rw [adr_hi hb3]; omega
    · have h0 : kd (b : Int) = 0 := by
        by_cases w : kd (b : Int) = 0
        · exact w
        · have := q5 b w
          omega
      exact ⟨fun c u1 _ => by omega, fun k u1 _ => by omega⟩
  · have := q5 b hb
    omega
theorem hts_thr {g : GP} {s : State} {args : Array Value} (hG : GH g) (hW : (gs g).WarmedH s.vm) {w : Cond} (hm : w ∈ lw_tbl) (hg : thrW w = true) : w.before args s = true := by
  have h0 := hG.1 w hm
  have hd : ∀ y : MethodName, w = .declares y → w.before args s = true := fun y e => by
    subst e
    have h1 : (Cond.declares y).before g.2.1 ((gs g).setVm s.vm) = true := (Cond.declares_setVm hW.alike y).trans h0
    exact va_tabs (A := g.2.1) (A' := args) (u := (gs g).setVm s.vm) (U := s) rfl rfl h1
  have hc : ∀ a b : String, w = .castable a b → w.before args s = true := fun a b e => by
    subst e
    exact va_Nw.use (A := args) rfl (va_Nw.warmC hW (va_Nw.of rfl h0))
  cases w <;> first | exact hts_at hG hW hm hg | exact hd _ rfl | exact hc _ _ rfl
/-- what the Throwable's statics are at the law's start -/
def THW (g : GP) : Prop := vx_Zq Bundle.tN "UNASSIGNED_STACK" Bundle.steD (fun q => gb g ≤ q) (gs g) (gs g).heap ∧ vx_Zq Bundle.tN "SUPPRESSED_SENTINEL" Bundle.listD (fun q => gb g ≤ q) (gs g) (gs g).heap
abbrev PX : Type := (Int → Nat) → (Int → Int) → (Int → Int → Int) → Nat → Prop
def XQ (g : GP) (px : PX) : String → State → State → Prop := fun E _ t => E = NSE ∧ ∃ (kd' : Int → Nat) (ln' : Int → Int) (mem' : Int → Int → Int) (sz' : Nat), px kd' ln' mem' sz' ∧ Rep g kd' ln' mem' sz' t.heap
def QX (z : ZT) (g : GP) (mc ms : Nat) (post : PT) (px : PX) : State → Prop := match z with
  | (_, _, _, _, s, _, args, below, _, _) => vx_MQ below (QC g post) (XQ g px) args s mc ms (fun q => gb g ≤ q)
/-- no handlers; the start holds the law's cells -/
def ET (z : ZT) (g : GP) : Prop := match z with
  | (_, _, _, _, s, _, _, _, _, c) => (∀ x ∈ c.exceptionTable.toList, False) ∧ gb g ≤ s.heap.size
def MX (l : Launch) (g : GP) (y : MethodName) (cc : ByteArray) (nL : Nat) (ret : Option FieldType) (d mc ms : Nat) (as : List AV) (kd : Int → Nat) (ln : Int → Int) (mem : Int → Int → Int) (sz : Nat) (post : PT) (px : PX) : Prop :=
  vx_Met l y [.code y cc nL ret] (mkR d mc ms) (va_Pc (as.map (cv g)) (fun U => (gs g).WarmedH U.vm ∧ Rep g kd ln mem sz U.heap)) (QC g post) (XQ g px) mc ms (fun q => gb g ≤ q)
theorem MX_of {l : Launch} {g : GP} {y : MethodName} {cc : ByteArray} {nL : Nat} {ret : Option FieldType} {d mc ms : Nat} {as : List AV} {kd : Int → Nat} {ln : Int → Int} {mem : Int → Int → Int} {sz : Nat} {post : PT} {px : PX} (hG : GH g) (hy : plainName y.cls = true) (hn : asz as ≤ nL)
    (body : ∀ z : ZT, FX z l g nL cc y.cls (mkR d mc ms) → RT z ret → NM z y.name → ET z g → J z g nL 0 0 (QX z g mc ms post px) 0 (largs 0 as) [] kd ln mem sz) : MX l g y cc nL ret d mc ms as kd ln mem sz post px := by
  refine vx_ofW (cc := cc) (maxL := nL) (ret := ret) hy rfl ?_
  intro p e s m args below meth c s₁ B hml hT hv
  obtain ⟨rfl, hW, hR⟩ := hv
  have hsz : gb g ≤ s.heap.size := by have := hR.1; have := hR.2.1; omega
  have hbody := body (p, l, e, mkR d mc ms, s, m, (as.map (cv g)).toArray, below, meth, c) ⟨B.exec, B.bytes, hml, findClass_of_methodNamed B.named, hW, hG, B.notSynchronized, rfl, rfl⟩ B.returns (name_of_methodNamed B.named B.method).1 ⟨hT, hsz⟩
  have hl := lv_entry (as.map (cv g)) (n := nL) (by rw [asz_sl]; exact hn)
  rw [lg_entry_eq]
  exact hbody _ _ [] (by rw [cl_largs]; exact hl) hR (fun q hq => by simp at hq)
section ROWS
variable {z : ZT} {l : Launch} {g : GP} {nL : Nat} {cells slots : Nat} {Q : State → Prop} {pc : Nat} {lo : List (Nat × AV)} {st : List AV} {kd : Int → Nat} {ln : Int → Int} {mem : Int → Int → Int} {sz : Nat} {cc : ByteArray} {own : String} {R : Room} {mc ms : Nat} {post : PT} {px : PX}
/-- 'throw new NoSuchElementException()' -/
theorem jthrow (hF : FX z l g nL cc "FigureHouse" R) (hET : ET z g) (hl : l.stackTraces = false) (hTH : THW g)
    (d0 : decode cc pc = .ok (.new 173, 3)) (d3 : decode cc (pc + 3) = .ok (.dup, 1)) (d4 : decode cc (pc + 4) = .ok (.invokespecial 175, 3)) (d7 : decode cc (pc + 7) = .ok (.athrow, 1))
    (hroom : 5 < R.frames ∧ asz st + 81 ≤ R.locals ∧ cells + 1 ≤ R.cells ∧ slots + 6 ≤ R.slots) (hc : cells + 1 ≤ mc ∧ slots + 6 ≤ ms) (hp : ∀ sz' : Nat, sz ≤ sz' → px kd ln mem sz') : J z g nL cells slots (QX z g mc ms post px) pc lo st kd ln mem sz := by
  obtain ⟨p, l', e, R', s, m, args, below, meth, c⟩ := z
  obtain ⟨hx, hb, hml, hown, hW, hG, hlk, rfl, rfl⟩ := hF
  obtain ⟨hT, hsz⟩ := hET
  intro ls H locs hls hR hq T hTH' X
  obtain ⟨f1, f2⟩ := vx_frame X.same
  have f1' : s.heap.size ≤ H.size := by rw [← hTH']; exact f1
  have f2' : ∀ q : Nat, q < s.heap.size → ¬ gb g ≤ q → H[q]? = s.heap[q]? := fun q h1 h2 => by
    rw [← hTH']
    exact f2 q h1 (fun w hw hwq => h2 (by rw [← hwq]; exact hq w hw))
  have hS : va_S (fun q => gb g ≤ q) s.heap H locs := ⟨f1', f2', hq⟩
  have hs0 : ∀ q : Nat, q < (gs g).heap.size → ¬ gb g ≤ q → s.heap[q]? = (gs g).heap[q]? := fun q h1 h2 => by
    rw [← f2' q (by omega) h2]
    exact hR.2.2.1 q (by omega)
  refine vx_throw0 (names := NSn) (A := fun q => gb g ≤ q) hx hb hl hown (by decide) (by decide) (hts_at hG hW wd_1342 rfl) (hts_at hG hW wd_121 rfl) (fun w hw => hts_thr hG hW (at0_in w hw) (at0_ok w hw)) at0_ot (vx_Zq.moved hW.alike (hTH.1.kept hs0)) (vx_Zq.moved hW.alike (hTH.2.kept hs0)) hS (hls.1.trans hml.symm) d0 d3 d4 d7 (fun x hx => (hT x hx).elim) hroom.1 ?_ hroom.2.2.1 hroom.2.2.2 hlk (fun t hA h1 h2 => ?_) hq hc.1 hc.2 T hTH' X
  · rw [asz_w]
    exact hroom.2.1
  · exact ⟨rfl, kd, ln, mem, sz + (t.heap.size - H.size), hp _ (by omega), hR.grow hG h1 h2⟩
/-- thrown, over this frame -/
def KX (z : ZT) (g : GP) (nL : Nat) (cells slots : Nat) (Q : State → Prop) (pc : Nat) (lo : List (Nat × AV)) (st : List AV) (kd : Int → Nat) (ln : Int → Int) (mem : Int → Int → Int) (sz : Nat) : Prop := match z with
  | (p, l, e, R, s, m, args, below, meth, c) => ∀ (ls : Array Slot) (H : Heap) (locs : List Loc) (q9 : Addr) (ce : Cell), lv_has ls nL (cl g lo) → Rep g kd ln mem sz H → (∀ q ∈ locs, gb g ≤ q.base) → H[q9]? = some ce → ce.vm = .none → s.vm.findClass NSE = some ce.cls → vx_W p l e R s m args below meth c H locs cells slots Q (F0 m pc ls (st.map (cv g))) q9
variable {y : MethodName} {cy : ByteArray} {nLy : Nat} {ret : Option FieldType} {d : Nat} {as rest : List AV} {n : Nat}
theorem jcallX (hF : FX z l g nL cc own R) {b : Int} (hM : MX l g y cy nLy ret d mc ms ((2, b) :: as) kd ln mem sz post px) (hw : MW y cy nLy ret n) (c : Nat) (hc : c < 14) (hbk : kd b = c + 1) {index : Nat} (hl : Cond.methodLink own index y ∈ lw_tbl) (hi : Cond.instanceMethod y ∈ lw_tbl) (hs : Cond.selects (cRec c).1 y y ∈ lw_tbl) (hd : decode cc pc = .ok (.invokevirtual index, 3)) (rest : List AV) (hst : st = as.reverse ++ (2, b) :: rest) (hn : as.length = n)
    (hroom : d + 1 ≤ R.frames ∧ 8 + (nLy + 11) + 40 * d ≤ R.locals) (hwt : asz rest ≤ 8) (hcs : cells + mc ≤ R.cells ∧ slots + ms ≤ R.slots)
    (kk : ∀ (r : Option AV) (kd' : Int → Nat) (ln' : Int → Int) (mem' : Int → Int → Int) (sz' : Nat), post r kd' ln' mem' sz' → J z g nL (cells + mc) (slots + ms) Q (pc + 3) lo (r.toList ++ rest) kd' ln' mem' sz')
    (kx : ∀ (kd' : Int → Nat) (ln' : Int → Int) (mem' : Int → Int → Int) (sz' : Nat), px kd' ln' mem' sz' → KX z g nL (cells + mc) (slots + ms) Q pc lo rest kd' ln' mem' sz') : J z g nL cells slots Q pc lo st kd ln mem sz := by
  obtain ⟨p, l', e, R', s, m, args, below, meth, cd⟩ := z
  obtain ⟨hx, hb, hml, hown, hW, hG, hlk, rfl, rfl⟩ := hF
  intro ls H locs hls hR hq
  obtain ⟨k, rfl, hcell⟩ := recvOK (s := s) hG hW hR hc hbk
  have hrun : vx_Run p l' e R' s m args below meth cd H locs cells slots mc ms (F0 m pc ls (st.map (cv g))) (rest.map (cv g)) (QC g post ((Value.ref (adr g k) :: as.map (cv g)).toArray)) (XQ g px) (fun q => gb g ≤ q) := by
    refine vx_runV (Ts := []) (n := n) (C := (cRec c).1) (b := adr g k) (As := as.map (cv g)) ⟨hx, hb, hml, hown, fun w h => by simp at h⟩ hM ⟨⟨rfl, rfl, hroom.1, hroom.2, fun w h a' U hWU => ?_, List.mem_cons_self, hts_at hG hW hw.2.2.1 rfl, hts_at hG hW hw.2.2.2 rfl, hw.1, hw.len, hts_at hG hW hl rfl⟩, hts_at hG hW hi rfl, hts_at hG hW hs rfl⟩ ⟨blindP, hcell, fun U hU hWU => ⟨rfl, State.WarmedH.trans hW hWU, by rw [hU]; exact hR⟩⟩ rfl (by rw [List.length_map]; exact hn) hls.1 ?_ ?_ hd hcs
    · rw [List.mem_singleton.mp h]
      exact hts_at hG (State.WarmedH.trans hW hWU) hw.2.2.1 rfl
    · show st.map (cv g) = _
      rw [hst]
      simp
      rfl
    · rw [asz_w]
      show 2 * 0 + _ ≤ 8
      omega
  intro T hT X
  rcases hrun T hT X with ⟨v, st₀, t, T', L, h0, X', hL, e1, e2, ⟨r, kd', ln', mem', sz', h1, h2, h3⟩, hst'⟩ | ⟨q, st₀, t, T', L, E, ce, h0, X', hL, e1, e2, ⟨hE, kd', ln', mem', sz', h2, h3⟩, hce, hcv, hcl, hst'⟩
  · cases h1
    obtain ⟨t2, a1, b1⟩ := kk r kd' ln' mem' sz' h2 ls T'.heap (locs ++ L) hls (by rw [e1]; exact h3) (fun q hq' => (List.mem_append.mp hq').elim (hq q) (hL q)) T' rfl X'
    refine ⟨t2, hst' t2 ?_, b1⟩
    have e : (r.map (cv g)).toList ++ rest.map (cv g) = (r.toList ++ rest).map (cv g) := by cases r <;> rfl
    show Steps p.tables _ below (T'.setTop { (F0 m pc ls (st.map (cv g))) with pc := pc + 3, stack := (r.map (cv g)).toList ++ rest.map (cv g) }) t2
    rw [e]
    exact a1
  · subst hE
    obtain ⟨t2, a1, b1⟩ := kx kd' ln' mem' sz' h2 ls T'.heap (locs ++ L) q ce hls (by rw [e1]; exact h3) (fun q hq' => (List.mem_append.mp hq').elim (hq q) (hL q)) (by rw [e1]; exact hce) hcv hcl T' rfl X'
    exact ⟨t2, hst'.trans a1, b1⟩
/-- the helper's table -/
def ETW (z : ZT) (hh : List (Nat × Nat × Nat × Nat)) : Prop := match z with
  | (_, _, _, _, _, _, _, _, _, c) => c.exceptionTable.toList = tableOf hh
def MTW (l : Launch) (g : GP) (y : MethodName) (cc : ByteArray) (nL : Nat) (ret : Option FieldType) (hh : List (Nat × Nat × Nat × Nat)) (d mc ms : Nat) (as : List AV) (kd : Int → Nat) (ln : Int → Int) (mem : Int → Int → Int) (sz : Nat) (post : PT) : Prop :=
  Met l y [.codeWith y cc nL ret hh] (mkR d mc ms) (va_Pc (as.map (cv g)) (fun U => (gs g).WarmedH U.vm ∧ Rep g kd ln mem sz U.heap)) (QC g post) mc ms (fun q => gb g ≤ q)
theorem MTW_of {hh : List (Nat × Nat × Nat × Nat)} (hG : GH g) (hy : plainName y.cls = true) (hn : asz as ≤ nLy)
    (body : ∀ z : ZT, FX z l g nLy cy y.cls (mkR d mc ms) → RT z ret → NM z y.name → ETW z hh → J z g nLy 0 0 (QM z g mc ms post) 0 (largs 0 as) [] kd ln mem sz) : MTW l g y cy nLy ret hh d mc ms as kd ln mem sz post := by
  unfold MTW Met
  refine MetFree.of_bodyS (code := cy) (maxLocals := nLy) (ret := ret) hy ?_ ?_
  · intro args s m h hn
    obtain ⟨m9, meth, c, hn9, h1, h2, h3, h4, -, h5, h6, -⟩ := Cond.codeWith_spec (atoms_spec (ws := [Cond.codeWith y cy nLy ret hh]) h _ List.mem_cons_self)
    cases hn.symm.trans hn9
    exact ⟨meth, c, h1, h2, h3, h4, h5, h6⟩
  · intro p e s m args below meth c s₁ B hml hv _
    have hT := vx_table (x := y) B (atoms_spec (ws := [Cond.codeWith y cy nLy ret hh]) B.pre _ List.mem_cons_self)
    obtain ⟨rfl, hW, hR⟩ := hv
    have hbody := body (p, l, e, mkR d mc ms, s, m, (as.map (cv g)).toArray, below, meth, c) ⟨B.exec, B.bytes, hml, findClass_of_methodNamed B.named, hW, hG, B.notSynchronized, rfl, rfl⟩ B.returns (name_of_methodNamed B.named B.method).1 hT
    have hl := lv_entry (as.map (cv g)) (n := nLy) (by rw [asz_sl]; exact hn)
    have hh0 : s₁.heap = s.heap := by rw [B.state]; rfl
    rw [lg_entry_eq]
    obtain ⟨t, a1, o, b1, b2, b3⟩ := hbody _ _ [] (by rw [cl_largs]; exact hl) hR (fun q hq => by simp at hq) s₁ hh0 (Stand.of_body B)
    exact ⟨t, o, a1, b1, b2, ⟨b3.1, b3.2⟩⟩
/-- caught: 1 -/
theorem jcatch {k0 h0 : Nat} {k : Nat} (hF : FX z l g nL cc "FigureHouseLaw" R) (hET : ETW z [(0, k0, h0, 13)]) (hr : RT z (some .int)) (hcv : pc < k0) (hk : k < nL) (d1 : decode cc h0 = .ok (.astore k, 2)) (d2 : decode cc (h0 + 2) = .ok (.iconst 1, 1)) (d3 : decode cc (h0 + 3) = .ok (.ireturn, 1)) (hc : cells ≤ mc ∧ slots ≤ ms) (hp : post (some (0, 1)) kd ln mem sz) : KX z g nL cells slots (QM z g mc ms post) pc lo st kd ln mem sz := by
  obtain ⟨p, l', e, R', s, m, args, below, meth, c⟩ := z
  obtain ⟨hx, hb, hml, hown, hW, hG, hlk, -⟩ := hF
  intro ls H locs q9 ce hls hR hq hce hcv9 hcl
  refine vx_catch hown [] ⟨0, k0, h0, 13⟩ [] hET (fun z hz => nomatch hz) (by unfold covers; simp [hcv]) (show (13 : Nat) ≠ 0 by decide) (hts_at hG hW wd_1336 rfl) (hts_thr hG hW wx_1344 rfl) hce hcv9 hcl ?_
  refine W.widen hc.1 hc.2 ?_
  refine lv_astore hx hb d1 hls hk rfl (fun ls' hls' => ?_)
  refine lv_iconst (v := 1) hx hb d2 (by decide) ?_
  exact W.iret (Qc := QC g post) (free := fun q => gb g ≤ q) (v := 1) hx hb hr (fun t ht hW => ⟨some (0, 1), kd, ln, mem, sz, rfl, hp, by rw [ht]; exact hR⟩) hq d3 hlk
theorem jcallSW (hF : FX z l g nL cc own R) {hh : List (Nat × Nat × Nat × Nat)} (hM : MTW l g y cy nLy ret hh d mc ms as kd ln mem sz post) (hcw : Cond.codeWith y cy nLy ret hh ∈ lw_tbl) (hini : Cond.initialized y.cls ∈ lw_tbl) (hy : y.cls ≠ "java/lang/invoke/MethodHandle" ∧ y.cls ≠ "java/lang/invoke/VarHandle") (hlen : (parseMethodDescriptor y.desc).map (fun d => d.parameters.length) = some n) {index : Nat} (hl : Cond.methodLink own index y ∈ lw_tbl) (hs : Cond.static y ∈ lw_tbl) (hd : decode cc pc = .ok (.invokestatic index, 3)) (rest : List AV) (hst : st = as.reverse ++ rest) (hn : as.length = n)
    (hroom : d + 1 ≤ R.frames ∧ 8 + (nLy + 11) + 40 * d ≤ R.locals) (hwt : asz rest ≤ 8) (hcs : cells + mc ≤ R.cells ∧ slots + ms ≤ R.slots)
    (kk : ∀ (r : Option AV) (kd' : Int → Nat) (ln' : Int → Int) (mem' : Int → Int → Int) (sz' : Nat), post r kd' ln' mem' sz' → J z g nL (cells + mc) (slots + ms) Q (pc + 3) lo (r.toList ++ rest) kd' ln' mem' sz') : J z g nL cells slots Q pc lo st kd ln mem sz := by
  obtain ⟨p, l', e, R', s, m, args, below, meth, c⟩ := z
  obtain ⟨hx, hb, hml, hown, hW, hG, hlk, rfl, rfl⟩ := hF
  refine jrun (a := (as.map (cv g)).toArray) (rest := rest) (fun ls H locs hls hR => ?_) kk
  refine vx_runSW (Ts := []) (n := n) (hh := hh) ⟨hx, hb, hml, hown, fun w h => by simp at h⟩ hM ⟨⟨rfl, rfl, hroom.1, hroom.2, fun w h a' U hWU => ?_, List.mem_cons_self⟩, hts_at hG hW hcw rfl, hts_at hG hW hini rfl, hy, fun sig e => ?_, hts_at hG hW hl rfl, hts_at hG hW hs rfl⟩ ⟨blindP, fun U hU hWU => ⟨rfl, State.WarmedH.trans hW hWU, by rw [hU]; exact hR⟩⟩ rfl (by rw [List.length_map]; exact hn) hls.1 ?_ ?_ hd hcs
  · rw [List.mem_singleton.mp h]
    exact hts_at hG (State.WarmedH.trans hW hWU) hcw rfl
  · rw [e] at hlen
    exact (Option.some.inj hlen).symm
  · show st.map (cv g) = _
    rw [hst]
    simp
  · rw [asz_w]
    show 2 * 0 + _ ≤ 8
    omega
end ROWS
end EXCJ
