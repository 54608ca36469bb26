set_option maxHeartbeats 4000000 in
set_option maxRecDepth 100000 in
/-- YOUR PART: from the entry, for every script of at most 4096 ints, the law comes to its end with true ('hflags': the launch's flags, for a law that throws: no stack traces) -/
theorem whole_start {p : Program} {e : Env} {s : State} {m : MethodId} {below : List Frame} {meth : Method} {c : Code} (l : Launch) (hflags : l.flags = flags0) {b L : Nat} {xs : Nat → Int32} (hL : L ≤ 4096) (C0 : lw_At p s m meth c b L xs) : W p l e room_1 s m #[Value.ref b] below meth c s.heap [] 0 0 (lw_Z below #[Value.ref b] s) (entryFrame m ([Value.ref b] : List Value).toArray 8) := by
  obtain ⟨hx, hb, hr, hml, hown, hts, hX, hbl, hlocks, hgv⟩ := C0
  obtain ⟨aT, aE, D, hG, hTH, hTN, hEM, hS, hRep⟩ := g_ok hL hts hX hbl hgv
  obtain ⟨mi, hMi⟩ := va_Mi.of (C := "[Ljava/lang/Object;") (flat_of_before _ hgv _ (by decide +kernel))
  have hl : l.stackTraces = false := by unfold Launch.stackTraces; rw [hflags]; decide
  obtain ⟨g, hg⟩ : ∃ g : GP, g = (s, #[Value.ref b], (aT, aE, b), D) := ⟨_, rfl⟩
  have hgs : gs g = s := by rw [hg]; rfl
  have hgb : gb g = s.heap.size := by rw [hg]; rfl
  have hc0 : cv g (2, 2) = .ref b := by rw [hg]; rfl
  rw [← hg] at hG hTH hTN hEM hS hRep
  have hMi' : va_Mi "[Ljava/lang/Object;" mi (gs g) := by rw [hgs]; exact hMi
  have hF : FX (p, l, e, room_1, s, m, #[Value.ref b], below, meth, c) l g 8 code "FigureHouseLaw" room_1 := ⟨hx, hb, hml, hown, by rw [hgs]; exact State.WarmedH.refl s, hG, hlocks, rfl, rfl⟩
  have kend : ∀ (i : Int) (kd : Int → Nat) (ln : Int → Int) (mem : Int → Int → Int) (sz : Nat), J (p, l, e, room_1, s, m, #[Value.ref b], below, meth, c) g 8 601024 7293034 (lw_Z below #[Value.ref b] s) 3063 [(0, (2, 2)), (1, (2, 3)), (2, (2, 35)), (3, (2, 100)), (4, (0, i))] [] kd ln mem sz := by
    intro i kd ln mem sz
    refine jblk hF [(.iconst 1, 1)] (by decide +kernel) (pc' := 3064) (lo' := [(0, (2, 2)), (1, (2, 3)), (2, (2, 35)), (3, (2, 100)), (4, (0, i))]) (st' := [(0, 1)]) rfl ?_
    intro ls H locs hls hR hq
    refine va_forget (fun q h => by rw [← hgb]; exact hq q h) ?_
    exact lw_ret hx hb hr hlocks (by decide +kernel)
  have main : J (p, l, e, room_1, s, m, #[Value.ref b], below, meth, c) g 8 0 0 (lw_Z below #[Value.ref b] s) 0 [(0, (2, 2))] [] kd0 (ln0 L) (mem0 (fun j => (xs j.toNat).toInt)) 3 := by
    refine jnew hF 12 (by decide) okT_12 wd_127 wd_128 wd_101 (by decide +kernel) ⟨Nat.le_of_ble_eq_true rfl, Nat.le_of_ble_eq_true rfl⟩ ?_
    refine jblk hF [(.dup, 1)] (by decide +kernel) (pc' := 4) (lo' := [(0, (2, 2))]) (st' := [(2, 3), (2, 3)]) rfl ?_
    refine jcallI hF (c_X11_init hG rfl rfl ⟨rfl, rfl⟩ ⟨rfl, rfl⟩ (fun j q1 q2 => rfl) hEM) MW_X11_init rfl (by decide) wd_129 wd_130 (by decide +kernel) [(2, 3)] rfl rfl ⟨Nat.le_of_ble_eq_true rfl, Nat.le_of_ble_eq_true rfl⟩ (by decide) ⟨Nat.le_of_ble_eq_true rfl, Nat.le_of_ble_eq_true rfl⟩ (kXV (fun kd1 ln1 m1 sz1 hE1 hP1 => ?_))
    obtain ⟨rfl, hH⟩ := hP1
    refine jblk hF [(.astore_n 1, 1)] (by decide +kernel) (pc' := 8) (lo' := [(1, (2, 3)), (0, (2, 2))]) (st' := []) rfl ?_
    refine jnew hF 13 (by decide) okT_13 wd_1457 wd_1458 wd_112 (by decide +kernel) ⟨Nat.le_of_ble_eq_true rfl, Nat.le_of_ble_eq_true rfl⟩ ?_
    refine jblk hF [(.dup, 1)] (by decide +kernel) (pc' := 12) (lo' := [(1, (2, 3)), (0, (2, 2))]) (st' := [(2, 35), (2, 35)]) rfl ?_
    refine jcallI hF (c_X12_init hG 35 rfl (by decide) (by decide)) MW_X12_init rfl (by decide) wd_1459 wd_1460 (by decide +kernel) [(2, 35)] rfl rfl ⟨Nat.le_of_ble_eq_true rfl, Nat.le_of_ble_eq_true rfl⟩ (by decide) ⟨Nat.le_of_ble_eq_true rfl, Nat.le_of_ble_eq_true rfl⟩ (kXV (fun kd3 ln3 m3 sz3 hE3 hP3 => ?_))
    obtain ⟨rfl, hJ⟩ := hP3
    refine jblk hF [(.astore_n 2, 1), (.iconst 1, 1)] (by decide +kernel) (pc' := 17) (lo' := [(2, (2, 35)), (1, (2, 3)), (0, (2, 2))]) (st' := [(0, 1)]) rfl ?_
    refine jnewa hF (at' := .long) 1 (by decide) rfl wd_210 (by decide +kernel) (by decide) (by decide) ⟨Nat.le_of_ble_eq_true rfl, Nat.le_of_ble_eq_true rfl⟩ ?_
    refine jblk hF [(.astore_n 3, 1), (.iconst 0, 1), (.istore 4, 2)] (by decide +kernel) (pc' := 23) (lo' := [(4, (0, 0)), (3, (2, 100)), (2, (2, 35)), (1, (2, 3)), (0, (2, 2))]) (st' := []) rfl ?_
    refine jsub [4, 3, 2, 1, 0] rfl ?_
    have hV := LINV_0 hH hE3 hJ
    refine jwiden (k := 601024 - 40 * 512) (n := 7293034 - 2000 * 512) (by decide +kernel) (by decide +kernel) ?_
    exact law_it hF hG hl hTH hTN hEM mi hMi' hS ⟨by omega, by omega⟩ kend 512 (Nat.le_refl _) 0 _ _ _ _ (by decide) (by decide) (by omega) hV
  have hle := lv_entry [Value.ref b] (n := 8) (Nat.le_of_ble_eq_true rfl)
  rw [lg_entry_eq]
  refine main _ _ [] ?_ hRep (fun q hq => by cases hq)
  show lv_has _ 8 [(0, cv g (2, 2))]
  rw [hc0]
  exact hle
