section
/-- a state's bounds -/
def RB (L : Int) (rr : PR) : Prop := InI rr.1 ∧ (rr.1 = -1 → 0 ≤ rr.2.1 ∧ rr.2.1 ≤ L)
theorem RB.sk {T : Int → Int} {L : Int} {rr : PR} (h : RB L rr) : RB L (skR T L rr) := by
  refine ⟨by rw [skR_1]; exact h.1, fun e => ?_⟩
  rw [skR_1] at e
  rw [skR_in e]
  have h2 := h.2 e
  have h3 := skp_f T L rr.2.1
  have h4 := h3.2.1 h2.2
  show 0 ≤ skp T L rr.2.1 ∧ skp T L rr.2.1 ≤ L
  omega
theorem RB.gd {T : Int → Int} {L a0 : Int} {rr : PR} (h : GD T L a0 rr) (h0 : 0 ≤ a0) (hL : L ≤ 160) : RB L rr := by
  refine ⟨?_, fun e => ?_⟩
  · by_cases e : rr.1 = -1
    · rw [e]; exact ⟨by decide, by decide⟩
    · have := h.2 e
      exact ⟨by omega, by omega⟩
  · have h1 := (h.1 e).1
    have h2 := (h.1 e).2.1
    omega
theorem RES.wI {L : Int} {mem mm : Int → Int → Int} {rr : PR} {v : Int} (h : RES mem mm rr v) (hb : RB L rr) : InI (mm 7 2) := by rw [h.w]; exact hb.1
theorem RES.aB {L : Int} {mem mm : Int → Int → Int} {rr : PR} {v : Int} (h : RES mem mm rr v) (hb : RB L rr) : mm 7 2 = -1 → 0 ≤ mm 7 1 ∧ mm 7 1 ≤ L + 1 := by
  intro e
  rw [h.w] at e
  rw [h.a e]
  have := hb.2 e
  omega
/-- the loop's state -/
def LPS (T : Int → Int) (L : Int) (op : Int → Bool) (sub : Int → PR) (tg : Int → PR) (mem mm : Int → Int → Int) (k : Nat) (rr : PR) (v : Int) : Prop := RES mem mm rr v ∧ (mem 7 2 = -1 → OPJ T L op sub (mem 7 1) (tg (mem 7 1)) k rr) ∧ (mem 7 2 ≠ -1 → rr.1 = mem 7 2)
theorem LPS.rb {T : Int → Int} {L : Int} {op : Int → Bool} {sub tg : Int → PR} {mem mm : Int → Int → Int} {k : Nat} {rr : PR} {v : Int} (h : LPS T L op sub tg mem mm k rr v) (ha : mem 7 2 = -1 → 0 ≤ mem 7 1 ∧ mem 7 1 ≤ L) (hw : InI (mem 7 2)) (hL : L ≤ 160) : RB L rr := by
  by_cases e : mem 7 2 = -1
  · exact RB.gd (h.2.1 e).1 (ha e).1 hL
  · have e2 := h.2.2 e
    exact ⟨by rw [e2]; exact hw, fun q1 => absurd (e2.symm.trans q1) e⟩
theorem RES.ofer {mem mm : Int → Int → Int} {rr r2 : PR} {v : Int} (h : RES mem mm rr v) (e : rr.1 ≠ -1) (e2 : r2.1 = rr.1) : RES mem mm r2 v := by
  refine ⟨h.1, fun q1 => absurd (e2.symm.trans q1) e, fun _ => ?_⟩
  rw [e2]
  exact h.2.2 e
/-- no operator follows -/
theorem LPS.out {T : Int → Int} {L : Int} {op : Int → Bool} {sub tg : Int → PR} {mem mm m2 : Int → Int → Int} {k : Nat} {rr : PR} {v : Int} (h : LPS T L op sub tg mem mm k rr v) (h2 : RES mem m2 (skR T L rr) v) (hn : rr.1 = -1 → ¬ op (chr T L (skp T L rr.2.1)) = true) : COM mem m2 tg v := by
  unfold COM
  by_cases e : mem 7 2 = -1
  · rw [frA_in e]
    have hj := h.2.1 e
    by_cases e2 : rr.1 = -1
    · have := hj.stop e2 (hn e2)
      rw [← this]
      exact h2
    · exact h2.ofer (by rw [skR_1]; exact e2) ((hj.fail e2).trans skR_1.symm)
  · rw [frA_no e]
    have e2 := h.2.2 e
    exact h2.ofer (by rw [skR_1, e2]; exact e) (by rw [skR_1, e2]; rfl)
/-- after a fault -/
theorem LPS.bad {T : Int → Int} {L : Int} {op : Int → Bool} {sub tg : Int → PR} {mem mm : Int → Int → Int} {k : Nat} {rr : PR} {v : Int} (h : LPS T L op sub tg mem mm k rr v) (e2 : rr.1 ≠ -1) : COM mem mm tg v := by
  unfold COM
  by_cases e : mem 7 2 = -1
  · rw [frA_in e]
    exact h.1.ofer e2 ((h.2.1 e).fail e2)
  · rw [frA_no e]
    exact h.1.ofer e2 (h.2.2 e).symm
/-- an operator is met, what follows it read -/
theorem LPS.step {T : Int → Int} {L c : Int} {op : Int → Bool} {sub tg : Int → PR} {mem mm m0 m2 m3 : Int → Int → Int} {k : Nat} {rr : PR} {v v1 v2 : Int} (h : LPS T L op sub tg mem mm k rr v) (hop : ∀ c, op c = true → isOp c) (hs : ∀ a, 0 ≤ a → a ≤ L → GD T L a (sub a)) (ha : mem 7 2 = -1 → 0 ≤ mem 7 1 ∧ mem 7 1 ≤ L) (hc : op c = true)
    (h0 : RES mem m0 rr v ∨ RES mem m0 (skR T L rr) v) (hv : nsV T L (m0 7 1) (m0 7 2) = c) (hm : m2 = upR m0 (nsA T L (m0 7 1) (m0 7 2) + 1) (m0 7 2)) :
    m2 = upR mem (skp T L rr.2.1 + 1) (-1) ∧ (0 ≤ skp T L rr.2.1 + 1 ∧ skp T L rr.2.1 + 1 ≤ L) ∧ 1 ≤ k ∧ (COM m2 m3 sub v1 → v2 = bothV c v v1 → LPS T L op sub tg mem m3 (k - 1) (bnd (sub (skp T L rr.2.1 + 1)) (fun a' c' => okP a' (rr.2.2 ++ c' ++ [chr T L (skp T L rr.2.1)]))) v2 ∧ ∀ i : Int, (rr.1 = -1 → i < rr.2.1) → (bnd (sub (skp T L rr.2.1 + 1)) (fun a' c' => okP a' (rr.2.2 ++ c' ++ [chr T L (skp T L rr.2.1)]))).1 = -1 → i + 1 < (bnd (sub (skp T L rr.2.1 + 1)) (fun a' c' => okP a' (rr.2.2 ++ c' ++ [chr T L (skp T L rr.2.1)]))).2.1) := by
  have hx := hop c hc
  have key : rr.1 = -1 ∧ chr T L (skp T L rr.2.1) = c ∧ m2 = upR mem (skp T L rr.2.1 + 1) (-1) := by
    rcases h0 with h0 | h0
    · exact h0.meet (by omega) hv hm
    · obtain ⟨e1, e2, e3⟩ := h0.meet (by omega) hv hm
      rw [skR_1] at e1
      rw [skR_in e1] at e2 e3
      have e4 : skp T L (okP (skp T L rr.2.1) rr.2.2).2.1 = skp T L rr.2.1 := skp_skp T L rr.2.1
      rw [e4] at e2 e3
      exact ⟨e1, e2, e3⟩
  obtain ⟨e1, e2, e3⟩ := key
  have e0 : mem 7 2 = -1 := by
    by_cases q1 : mem 7 2 = -1
    · exact q1
    · exact absurd ((h.2.2 q1).symm.trans e1) q1
  have hj := h.2.1 e0
  have hb := ha e0
  obtain ⟨n1, n2, n3⟩ := hj.next hop hs hb.1 e1 (by rw [e2]; exact hc)
  have g1 := (hj.1.1 e1).1
  have hsk := (skp_f T L rr.2.1).1
  refine ⟨e3, by omega, n1, fun hC h2 => ⟨⟨?_, fun _ => n3, fun q1 => absurd e0 q1⟩, fun i hi q1 => ?_⟩⟩
  · have hS := hC.get (by rw [e3]; exact upR_2)
    rw [e3, upR_1] at hS
    have hR1 := hS.base
    have hbv := bothV_bd c v v1
    by_cases q1 : (sub (skp T L rr.2.1 + 1)).1 = -1
    · rw [bnd_is q1, e2]
      have x1 := h.1.2.1 e1
      have x2 := hR1.2.1 q1
      exact RES.ok (by omega) rfl x2.1 (by rw [h2]; exact x1.2.bin x2.2 hx)
    · rw [bnd_no q1]
      obtain ⟨a', x2⟩ := hR1.2.2 q1
      exact RES.er (by omega) rfl q1 x2
  · by_cases q2 : (sub (skp T L rr.2.1 + 1)).1 = -1
    · rw [bnd_is q2]
      have g2 := ((hs (skp T L rr.2.1 + 1) (by omega) (by omega)).1 q2).1
      have := hi e1
      show i + 1 < (sub (skp T L rr.2.1 + 1)).2.1
      omega
    · rw [bnd_no q2] at q1
      exact absurd q1 q2
end
