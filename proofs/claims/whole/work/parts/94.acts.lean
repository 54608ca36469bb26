section
/-- doubled sheets: what they leave unseen, and where it stands -/
def dblU (a b e : Int) : Int := if 0 < e then (a * b + e - 1) / e else if a * b = 0 then 0 else -1
def dblX (mem : Int → Int → Int) (x y a b e : Int) : Int → Int → Int := set2 (set2 (set2 mem 3 5 (mem 35 65 + 1)) 4 (x * 8 + y) (dblU a b e)) 4 (y * 8 + x) (dblU a b e)
section
variable {kd : Int → Nat} {ln : Int → Int} {mem : Int → Int → Int} {sz : Nat} {tg : Int → Int}
end
set_option maxHeartbeats 4000000 in
set_option maxRecDepth 100000 in
theorem c_X11_doubled {l : Launch} {g : GP} (hG : GH g) {kd : Int → Nat} {ln : Int → Int} {mem : Int → Int → Int} {sz : Nat} (hK : HK kd ln) (hR : HR mem) (x y a b e : Int) (tg : Int → Int) (hI : INV kd ln mem sz tg) (h_x : InI x) (h_y : InI y) (h_a : InI a) (h_b : InI b) (h_e : InI e) : MT l g yX11_doubled cX11_doubled 8 (some .boolean) 2 0 0 [(2, 3), (0, x), (0, y), (0, a), (0, b), (0, e)] kd ln mem sz (pMB (fun c mem' => HR mem' ∧ ((c ↔ dblC mem x y a b e) ∧ mem' = (if dblC mem x y a b e then dblX mem x y a b e else mem))) kd ln sz) := by
  refine MT_of hG (by decide +kernel) (Nat.le_of_ble_eq_true rfl) (fun z hF hr hn => ?_)
  obtain ⟨⟨q0, q1, q2, q3, q4, q5⟩, u0, u2, u46, u89, usz⟩ := hI.num
  have n65 := hI.dbs
  refine jblk hF [(.iload_n 1, 1)] (by decide +kernel) (pc' := 1) (lo' := [(0, (2, 3)), (1, (0, x)), (2, (0, y)), (3, (0, a)), (4, (0, b)), (5, (0, e))]) (st' := [(0, x)]) rfl ?_
  refine jcallS hF (c_X11_isHand hG x (by omega)) MW_X11_isHand wd_1090 wd_794 (by decide +kernel) [] rfl rfl (by decide) (Nat.le_of_ble_eq_true rfl) (by decide) (kB (fun h_1 => ?_) (fun h_1 => ?_))
  · refine jif_eq hF (off := 59) 63 (by decide +kernel) (by decide) (by decide) (fun h => absurd h (by decide)) (fun _ => ?_)
    refine jblk hF [(.iload_n 2, 1)] (by decide +kernel) (pc' := 8) (lo' := [(0, (2, 3)), (1, (0, x)), (2, (0, y)), (3, (0, a)), (4, (0, b)), (5, (0, e))]) (st' := [(0, y)]) rfl ?_
    refine jcallS hF (c_X11_isHand hG y (by omega)) MW_X11_isHand wd_1090 wd_794 (by decide +kernel) [] rfl rfl (by decide) (Nat.le_of_ble_eq_true rfl) (by decide) (kB (fun h_3 => ?_) (fun h_3 => ?_))
    · refine jif_eq hF (off := 52) 63 (by decide +kernel) (by decide) (by decide) (fun h => absurd h (by decide)) (fun _ => ?_)
      refine jblk hF [(.iload_n 1, 1), (.iload_n 2, 1)] (by decide +kernel) (pc' := 16) (lo' := [(0, (2, 3)), (1, (0, x)), (2, (0, y)), (3, (0, a)), (4, (0, b)), (5, (0, e))]) (st' := [(0, y), (0, x)]) rfl ?_
      refine jicmp_eq hF (off := 47) 63 (by decide +kernel) (by decide) (by omega) (by omega) (fun h_5 => ?_) (fun h_5 => ?_)
      · refine jblk hF [(.iconst 0, 1)] (by decide +kernel) (pc' := 64) (lo' := [(0, (2, 3)), (1, (0, x)), (2, (0, y)), (3, (0, a)), (4, (0, b)), (5, (0, e))]) (st' := [(0, 0)]) rfl ?_
        refine jzret hF hr (by omega) (by decide +kernel) ?_
        exact lMB0 ⟨hR, by exact ⟨⟨fun w => w.elim, fun w => by omega⟩, (if_neg (by omega)).symm⟩⟩
      · refine jblk hF [(.iload_n 3, 1), (.iconst 0, 1), (.sipush 1000, 3)] (by decide +kernel) (pc' := 24) (lo' := [(0, (2, 3)), (1, (0, x)), (2, (0, y)), (3, (0, a)), (4, (0, b)), (5, (0, e))]) (st' := [(0, 1000), (0, 0), (0, a)]) rfl ?_
        refine jcallS hF (c_X11_within hG a 0 1000 (by omega) (by decide) (by decide)) MW_X11_within wd_391 wd_392 (by decide +kernel) [] rfl rfl (by decide) (Nat.le_of_ble_eq_true rfl) (by decide) (kB (fun h_6 => ?_) (fun h_6 => ?_))
        · refine jif_eq hF (off := 36) 63 (by decide +kernel) (by decide) (by decide) (fun h => absurd h (by decide)) (fun _ => ?_)
          refine jblk hF [(.iload 4, 2), (.iconst 0, 1), (.sipush 1000, 3)] (by decide +kernel) (pc' := 36) (lo' := [(0, (2, 3)), (1, (0, x)), (2, (0, y)), (3, (0, a)), (4, (0, b)), (5, (0, e))]) (st' := [(0, 1000), (0, 0), (0, b)]) rfl ?_
          refine jcallS hF (c_X11_within hG b 0 1000 (by omega) (by decide) (by decide)) MW_X11_within wd_391 wd_392 (by decide +kernel) [] rfl rfl (by decide) (Nat.le_of_ble_eq_true rfl) (by decide) (kB (fun h_8 => ?_) (fun h_8 => ?_))
          · refine jif_eq hF (off := 24) 63 (by decide +kernel) (by decide) (by decide) (fun h => absurd h (by decide)) (fun _ => ?_)
            refine jblk hF [(.iload 5, 2), (.iconst 0, 1), (.sipush 1000, 3)] (by decide +kernel) (pc' := 48) (lo' := [(0, (2, 3)), (1, (0, x)), (2, (0, y)), (3, (0, a)), (4, (0, b)), (5, (0, e))]) (st' := [(0, 1000), (0, 0), (0, e)]) rfl ?_
            refine jcallS hF (c_X11_within hG e 0 1000 (by omega) (by decide) (by decide)) MW_X11_within wd_391 wd_392 (by decide +kernel) [] rfl rfl (by decide) (Nat.le_of_ble_eq_true rfl) (by decide) (kB (fun h_10 => ?_) (fun h_10 => ?_))
            · refine jif_eq hF (off := 12) 63 (by decide +kernel) (by decide) (by decide) (fun h => absurd h (by decide)) (fun _ => ?_)
              refine jblk hF [(.aload_n 0, 1)] (by decide +kernel) (pc' := 55) (lo' := [(0, (2, 3)), (1, (0, x)), (2, (0, y)), (3, (0, a)), (4, (0, b)), (5, (0, e))]) (st' := [(2, 3)]) rfl ?_
              refine jget hF 12 5 0 5 rfl (by decide) (by decide) rfl wd_331 (by decide +kernel) (by exact hK.k3) ?_
              refine jblk hF [(.bipush 40, 2)] (by decide +kernel) (pc' := 60) (lo' := [(0, (2, 3)), (1, (0, x)), (2, (0, y)), (3, (0, a)), (4, (0, b)), (5, (0, e))]) (st' := [(0, 40), (0, mem 3 5)]) rfl ?_
              refine jicmp_lt hF (off := 5) 65 (by decide +kernel) (by decide) (by omega) (by decide) (fun h_12 => ?_) (fun h_12 => ?_)
              · refine jblk hF [(.aload_n 0, 1), (.dup, 1)] (by decide +kernel) (pc' := 67) (lo' := [(0, (2, 3)), (1, (0, x)), (2, (0, y)), (3, (0, a)), (4, (0, b)), (5, (0, e))]) (st' := [(2, 3), (2, 3)]) rfl ?_
                refine jget hF 12 5 0 5 rfl (by decide) (by decide) rfl wd_331 (by decide +kernel) (by exact hK.k3) ?_
                refine jblk hF [(.iconst 1, 1), (.iadd, 1)] (by decide +kernel) (pc' := 72) (lo' := [(0, (2, 3)), (1, (0, x)), (2, (0, y)), (3, (0, a)), (4, (0, b)), (5, (0, e))]) (st' := [(0, (mem 3 5) + 1), (2, 3)]) rfl ?_
                refine jput hF 12 5 0 5 rfl (by decide) (by decide) rfl wd_331 (by decide +kernel) rfl (Or.inl rfl) (by exact hK.k3) (fun h => by cases h) ?_
                refine jblk hF [(.iload_n 3, 1), (.iload 4, 2), (.imul, 1)] (by decide +kernel) (pc' := 79) (lo' := [(0, (2, 3)), (1, (0, x)), (2, (0, y)), (3, (0, a)), (4, (0, b)), (5, (0, e))]) (st' := [(0, a * b)]) rfl ?_
                have hmu := mul_bd (a := a) (b := b) (by omega) (by omega)
                refine jblk hF [(.istore 6, 2), (.iload 6, 2)] (by decide +kernel) (pc' := 83) (lo' := [(6, (0, a * b)), (0, (2, 3)), (1, (0, x)), (2, (0, y)), (3, (0, a)), (4, (0, b)), (5, (0, e))]) (st' := [(0, a * b)]) rfl ?_
                refine jif_ne hF (off := 7) 90 (by decide +kernel) (by decide) (by omega) (fun h_13 => ?_) (fun h_13 => ?_)
                · refine jblk hF [(.iconst (-1), 1), (.istore 7, 2), (.iload 5, 2)] (by decide +kernel) (pc' := 95) (lo' := [(7, (0, (-1))), (6, (0, a * b)), (0, (2, 3)), (1, (0, x)), (2, (0, y)), (3, (0, a)), (4, (0, b)), (5, (0, e))]) (st' := [(0, e)]) rfl ?_
                  refine jif_le hF (off := 15) 110 (by decide +kernel) (by decide) (by omega) (fun h_14 => ?_) (fun h_14 => ?_)
                  · refine jblk hF [(.aload_n 0, 1)] (by decide +kernel) (pc' := 111) (lo' := [(7, (0, (-1))), (6, (0, a * b)), (0, (2, 3)), (1, (0, x)), (2, (0, y)), (3, (0, a)), (4, (0, b)), (5, (0, e))]) (st' := [(2, 3)]) rfl ?_
                    refine jget hF 12 6 2 6 rfl (by decide) (by decide) rfl wd_332 (by decide +kernel) (by exact hK.k3) ?_
                    rw [HR.r3_6 (HR.s hR (by omega))]
                    refine jblk hF [(.iload_n 1, 1), (.bipush 8, 2), (.imul, 1), (.iload_n 2, 1), (.iadd, 1), (.iload 7, 2)] (by decide +kernel) (pc' := 122) (lo' := [(7, (0, (-1))), (6, (0, a * b)), (0, (2, 3)), (1, (0, x)), (2, (0, y)), (3, (0, a)), (4, (0, b)), (5, (0, e))]) (st' := [(0, (-1)), (0, (x * 8) + y), (2, 4)]) rfl ?_
                    refine jiast hF (by decide +kernel) (by decide) (by exact hK.k4) (by omega) (by have := hK.l4; omega) ?_
                    refine jblk hF [(.aload_n 0, 1)] (by decide +kernel) (pc' := 124) (lo' := [(7, (0, (-1))), (6, (0, a * b)), (0, (2, 3)), (1, (0, x)), (2, (0, y)), (3, (0, a)), (4, (0, b)), (5, (0, e))]) (st' := [(2, 3)]) rfl ?_
                    refine jget hF 12 6 2 6 rfl (by decide) (by decide) rfl wd_332 (by decide +kernel) (by exact hK.k3) ?_
                    rw [HR.r3_6 (HR.s (HR.s hR (by omega)) (by omega))]
                    refine jblk hF [(.iload_n 2, 1), (.bipush 8, 2), (.imul, 1), (.iload_n 1, 1), (.iadd, 1), (.iload 7, 2)] (by decide +kernel) (pc' := 135) (lo' := [(7, (0, (-1))), (6, (0, a * b)), (0, (2, 3)), (1, (0, x)), (2, (0, y)), (3, (0, a)), (4, (0, b)), (5, (0, e))]) (st' := [(0, (-1)), (0, (y * 8) + x), (2, 4)]) rfl ?_
                    refine jiast hF (by decide +kernel) (by decide) (by exact hK.k4) (by omega) (by have := hK.l4; omega) ?_
                    refine jblk hF [(.iconst 1, 1)] (by decide +kernel) (pc' := 137) (lo' := [(7, (0, (-1))), (6, (0, a * b)), (0, (2, 3)), (1, (0, x)), (2, (0, y)), (3, (0, a)), (4, (0, b)), (5, (0, e))]) (st' := [(0, 1)]) rfl ?_
                    refine jzret hF hr (by omega) (by decide +kernel) ?_
                    exact lMB1 ⟨(HR.s (HR.s (HR.s hR (by omega)) (by omega)) (by omega)), by (refine ⟨⟨fun _ => by omega, fun _ => trivial⟩, ?_⟩; rw [if_pos (by omega)]; unfold dblX dblU; rw [q5]; first | rw [if_pos (by omega)] | rw [if_neg (by omega), if_pos (by omega)] | rw [if_neg (by omega), if_neg (by omega)])⟩
                  · refine jblk hF [(.iload 6, 2), (.iload 5, 2), (.iadd, 1), (.iconst 1, 1), (.isub, 1), (.iload 5, 2)] (by decide +kernel) (pc' := 107) (lo' := [(7, (0, (-1))), (6, (0, a * b)), (0, (2, 3)), (1, (0, x)), (2, (0, y)), (3, (0, a)), (4, (0, b)), (5, (0, e))]) (st' := [(0, e), (0, ((a * b) + e) - 1)]) rfl ?_
                    refine jidivN hF (by decide +kernel) (by omega) (by omega) ?_
                    refine jblk hF [(.istore 7, 2), (.aload_n 0, 1)] (by decide +kernel) (pc' := 111) (lo' := [(7, (0, (((a * b) + e) - 1) / e)), (6, (0, a * b)), (0, (2, 3)), (1, (0, x)), (2, (0, y)), (3, (0, a)), (4, (0, b)), (5, (0, e))]) (st' := [(2, 3)]) rfl ?_
                    refine jget hF 12 6 2 6 rfl (by decide) (by decide) rfl wd_332 (by decide +kernel) (by exact hK.k3) ?_
                    rw [HR.r3_6 (HR.s hR (by omega))]
                    refine jblk hF [(.iload_n 1, 1), (.bipush 8, 2), (.imul, 1), (.iload_n 2, 1), (.iadd, 1), (.iload 7, 2)] (by decide +kernel) (pc' := 122) (lo' := [(7, (0, (((a * b) + e) - 1) / e)), (6, (0, a * b)), (0, (2, 3)), (1, (0, x)), (2, (0, y)), (3, (0, a)), (4, (0, b)), (5, (0, e))]) (st' := [(0, (((a * b) + e) - 1) / e), (0, (x * 8) + y), (2, 4)]) rfl ?_
                    refine jiast hF (by decide +kernel) (by decide) (by exact hK.k4) (by omega) (by have := hK.l4; omega) ?_
                    refine jblk hF [(.aload_n 0, 1)] (by decide +kernel) (pc' := 124) (lo' := [(7, (0, (((a * b) + e) - 1) / e)), (6, (0, a * b)), (0, (2, 3)), (1, (0, x)), (2, (0, y)), (3, (0, a)), (4, (0, b)), (5, (0, e))]) (st' := [(2, 3)]) rfl ?_
                    refine jget hF 12 6 2 6 rfl (by decide) (by decide) rfl wd_332 (by decide +kernel) (by exact hK.k3) ?_
                    rw [HR.r3_6 (HR.s (HR.s hR (by omega)) (by omega))]
                    refine jblk hF [(.iload_n 2, 1), (.bipush 8, 2), (.imul, 1), (.iload_n 1, 1), (.iadd, 1), (.iload 7, 2)] (by decide +kernel) (pc' := 135) (lo' := [(7, (0, (((a * b) + e) - 1) / e)), (6, (0, a * b)), (0, (2, 3)), (1, (0, x)), (2, (0, y)), (3, (0, a)), (4, (0, b)), (5, (0, e))]) (st' := [(0, (((a * b) + e) - 1) / e), (0, (y * 8) + x), (2, 4)]) rfl ?_
                    refine jiast hF (by decide +kernel) (by decide) (by exact hK.k4) (by omega) (by have := hK.l4; omega) ?_
                    refine jblk hF [(.iconst 1, 1)] (by decide +kernel) (pc' := 137) (lo' := [(7, (0, (((a * b) + e) - 1) / e)), (6, (0, a * b)), (0, (2, 3)), (1, (0, x)), (2, (0, y)), (3, (0, a)), (4, (0, b)), (5, (0, e))]) (st' := [(0, 1)]) rfl ?_
                    refine jzret hF hr (by omega) (by decide +kernel) ?_
                    exact lMB1 ⟨(HR.s (HR.s (HR.s hR (by omega)) (by omega)) (by omega)), by (refine ⟨⟨fun _ => by omega, fun _ => trivial⟩, ?_⟩; rw [if_pos (by omega)]; unfold dblX dblU; rw [q5]; first | rw [if_pos (by omega)] | rw [if_neg (by omega), if_pos (by omega)] | rw [if_neg (by omega), if_neg (by omega)])⟩
                · refine jblk hF [(.iconst 0, 1)] (by decide +kernel) (pc' := 87) (lo' := [(6, (0, a * b)), (0, (2, 3)), (1, (0, x)), (2, (0, y)), (3, (0, a)), (4, (0, b)), (5, (0, e))]) (st' := [(0, 0)]) rfl ?_
                  refine jgoto hF (off := 4) 91 (by decide +kernel) (by decide) ?_
                  refine jblk hF [(.istore 7, 2), (.iload 5, 2)] (by decide +kernel) (pc' := 95) (lo' := [(7, (0, 0)), (6, (0, a * b)), (0, (2, 3)), (1, (0, x)), (2, (0, y)), (3, (0, a)), (4, (0, b)), (5, (0, e))]) (st' := [(0, e)]) rfl ?_
                  refine jif_le hF (off := 15) 110 (by decide +kernel) (by decide) (by omega) (fun h_15 => ?_) (fun h_15 => ?_)
                  · refine jblk hF [(.aload_n 0, 1)] (by decide +kernel) (pc' := 111) (lo' := [(7, (0, 0)), (6, (0, a * b)), (0, (2, 3)), (1, (0, x)), (2, (0, y)), (3, (0, a)), (4, (0, b)), (5, (0, e))]) (st' := [(2, 3)]) rfl ?_
                    refine jget hF 12 6 2 6 rfl (by decide) (by decide) rfl wd_332 (by decide +kernel) (by exact hK.k3) ?_
                    rw [HR.r3_6 (HR.s hR (by omega))]
                    refine jblk hF [(.iload_n 1, 1), (.bipush 8, 2), (.imul, 1), (.iload_n 2, 1), (.iadd, 1), (.iload 7, 2)] (by decide +kernel) (pc' := 122) (lo' := [(7, (0, 0)), (6, (0, a * b)), (0, (2, 3)), (1, (0, x)), (2, (0, y)), (3, (0, a)), (4, (0, b)), (5, (0, e))]) (st' := [(0, 0), (0, (x * 8) + y), (2, 4)]) rfl ?_
                    refine jiast hF (by decide +kernel) (by decide) (by exact hK.k4) (by omega) (by have := hK.l4; omega) ?_
                    refine jblk hF [(.aload_n 0, 1)] (by decide +kernel) (pc' := 124) (lo' := [(7, (0, 0)), (6, (0, a * b)), (0, (2, 3)), (1, (0, x)), (2, (0, y)), (3, (0, a)), (4, (0, b)), (5, (0, e))]) (st' := [(2, 3)]) rfl ?_
                    refine jget hF 12 6 2 6 rfl (by decide) (by decide) rfl wd_332 (by decide +kernel) (by exact hK.k3) ?_
                    rw [HR.r3_6 (HR.s (HR.s hR (by omega)) (by omega))]
                    refine jblk hF [(.iload_n 2, 1), (.bipush 8, 2), (.imul, 1), (.iload_n 1, 1), (.iadd, 1), (.iload 7, 2)] (by decide +kernel) (pc' := 135) (lo' := [(7, (0, 0)), (6, (0, a * b)), (0, (2, 3)), (1, (0, x)), (2, (0, y)), (3, (0, a)), (4, (0, b)), (5, (0, e))]) (st' := [(0, 0), (0, (y * 8) + x), (2, 4)]) rfl ?_
                    refine jiast hF (by decide +kernel) (by decide) (by exact hK.k4) (by omega) (by have := hK.l4; omega) ?_
                    refine jblk hF [(.iconst 1, 1)] (by decide +kernel) (pc' := 137) (lo' := [(7, (0, 0)), (6, (0, a * b)), (0, (2, 3)), (1, (0, x)), (2, (0, y)), (3, (0, a)), (4, (0, b)), (5, (0, e))]) (st' := [(0, 1)]) rfl ?_
                    refine jzret hF hr (by omega) (by decide +kernel) ?_
                    exact lMB1 ⟨(HR.s (HR.s (HR.s hR (by omega)) (by omega)) (by omega)), by (refine ⟨⟨fun _ => by omega, fun _ => trivial⟩, ?_⟩; rw [if_pos (by omega)]; unfold dblX dblU; rw [q5]; first | rw [if_pos (by omega)] | rw [if_neg (by omega), if_pos (by omega)] | rw [if_neg (by omega), if_neg (by omega)])⟩
                  · refine jblk hF [(.iload 6, 2), (.iload 5, 2), (.iadd, 1), (.iconst 1, 1), (.isub, 1), (.iload 5, 2)] (by decide +kernel) (pc' := 107) (lo' := [(7, (0, 0)), (6, (0, a * b)), (0, (2, 3)), (1, (0, x)), (2, (0, y)), (3, (0, a)), (4, (0, b)), (5, (0, e))]) (st' := [(0, e), (0, ((a * b) + e) - 1)]) rfl ?_
                    refine jidivN hF (by decide +kernel) (by omega) (by omega) ?_
                    refine jblk hF [(.istore 7, 2), (.aload_n 0, 1)] (by decide +kernel) (pc' := 111) (lo' := [(7, (0, (((a * b) + e) - 1) / e)), (6, (0, a * b)), (0, (2, 3)), (1, (0, x)), (2, (0, y)), (3, (0, a)), (4, (0, b)), (5, (0, e))]) (st' := [(2, 3)]) rfl ?_
                    refine jget hF 12 6 2 6 rfl (by decide) (by decide) rfl wd_332 (by decide +kernel) (by exact hK.k3) ?_
                    rw [HR.r3_6 (HR.s hR (by omega))]
                    refine jblk hF [(.iload_n 1, 1), (.bipush 8, 2), (.imul, 1), (.iload_n 2, 1), (.iadd, 1), (.iload 7, 2)] (by decide +kernel) (pc' := 122) (lo' := [(7, (0, (((a * b) + e) - 1) / e)), (6, (0, a * b)), (0, (2, 3)), (1, (0, x)), (2, (0, y)), (3, (0, a)), (4, (0, b)), (5, (0, e))]) (st' := [(0, (((a * b) + e) - 1) / e), (0, (x * 8) + y), (2, 4)]) rfl ?_
                    refine jiast hF (by decide +kernel) (by decide) (by exact hK.k4) (by omega) (by have := hK.l4; omega) ?_
                    refine jblk hF [(.aload_n 0, 1)] (by decide +kernel) (pc' := 124) (lo' := [(7, (0, (((a * b) + e) - 1) / e)), (6, (0, a * b)), (0, (2, 3)), (1, (0, x)), (2, (0, y)), (3, (0, a)), (4, (0, b)), (5, (0, e))]) (st' := [(2, 3)]) rfl ?_
                    refine jget hF 12 6 2 6 rfl (by decide) (by decide) rfl wd_332 (by decide +kernel) (by exact hK.k3) ?_
                    rw [HR.r3_6 (HR.s (HR.s hR (by omega)) (by omega))]
                    refine jblk hF [(.iload_n 2, 1), (.bipush 8, 2), (.imul, 1), (.iload_n 1, 1), (.iadd, 1), (.iload 7, 2)] (by decide +kernel) (pc' := 135) (lo' := [(7, (0, (((a * b) + e) - 1) / e)), (6, (0, a * b)), (0, (2, 3)), (1, (0, x)), (2, (0, y)), (3, (0, a)), (4, (0, b)), (5, (0, e))]) (st' := [(0, (((a * b) + e) - 1) / e), (0, (y * 8) + x), (2, 4)]) rfl ?_
                    refine jiast hF (by decide +kernel) (by decide) (by exact hK.k4) (by omega) (by have := hK.l4; omega) ?_
                    refine jblk hF [(.iconst 1, 1)] (by decide +kernel) (pc' := 137) (lo' := [(7, (0, (((a * b) + e) - 1) / e)), (6, (0, a * b)), (0, (2, 3)), (1, (0, x)), (2, (0, y)), (3, (0, a)), (4, (0, b)), (5, (0, e))]) (st' := [(0, 1)]) rfl ?_
                    refine jzret hF hr (by omega) (by decide +kernel) ?_
                    exact lMB1 ⟨(HR.s (HR.s (HR.s hR (by omega)) (by omega)) (by omega)), by (refine ⟨⟨fun _ => by omega, fun _ => trivial⟩, ?_⟩; rw [if_pos (by omega)]; unfold dblX dblU; rw [q5]; first | rw [if_pos (by omega)] | rw [if_neg (by omega), if_pos (by omega)] | rw [if_neg (by omega), if_neg (by omega)])⟩
              · refine jblk hF [(.iconst 0, 1)] (by decide +kernel) (pc' := 64) (lo' := [(0, (2, 3)), (1, (0, x)), (2, (0, y)), (3, (0, a)), (4, (0, b)), (5, (0, e))]) (st' := [(0, 0)]) rfl ?_
                refine jzret hF hr (by omega) (by decide +kernel) ?_
                exact lMB0 ⟨hR, by exact ⟨⟨fun w => w.elim, fun w => by omega⟩, (if_neg (by omega)).symm⟩⟩
            · refine jif_eq hF (off := 12) 63 (by decide +kernel) (by decide) (by decide) (fun _ => ?_) (fun h => absurd h (by decide))
              refine jblk hF [(.iconst 0, 1)] (by decide +kernel) (pc' := 64) (lo' := [(0, (2, 3)), (1, (0, x)), (2, (0, y)), (3, (0, a)), (4, (0, b)), (5, (0, e))]) (st' := [(0, 0)]) rfl ?_
              refine jzret hF hr (by omega) (by decide +kernel) ?_
              exact lMB0 ⟨hR, by exact ⟨⟨fun w => w.elim, fun w => by omega⟩, (if_neg (by omega)).symm⟩⟩
          · refine jif_eq hF (off := 24) 63 (by decide +kernel) (by decide) (by decide) (fun _ => ?_) (fun h => absurd h (by decide))
            refine jblk hF [(.iconst 0, 1)] (by decide +kernel) (pc' := 64) (lo' := [(0, (2, 3)), (1, (0, x)), (2, (0, y)), (3, (0, a)), (4, (0, b)), (5, (0, e))]) (st' := [(0, 0)]) rfl ?_
            refine jzret hF hr (by omega) (by decide +kernel) ?_
            exact lMB0 ⟨hR, by exact ⟨⟨fun w => w.elim, fun w => by omega⟩, (if_neg (by omega)).symm⟩⟩
        · refine jif_eq hF (off := 36) 63 (by decide +kernel) (by decide) (by decide) (fun _ => ?_) (fun h => absurd h (by decide))
          refine jblk hF [(.iconst 0, 1)] (by decide +kernel) (pc' := 64) (lo' := [(0, (2, 3)), (1, (0, x)), (2, (0, y)), (3, (0, a)), (4, (0, b)), (5, (0, e))]) (st' := [(0, 0)]) rfl ?_
          refine jzret hF hr (by omega) (by decide +kernel) ?_
          exact lMB0 ⟨hR, by exact ⟨⟨fun w => w.elim, fun w => by omega⟩, (if_neg (by omega)).symm⟩⟩
    · refine jif_eq hF (off := 52) 63 (by decide +kernel) (by decide) (by decide) (fun _ => ?_) (fun h => absurd h (by decide))
      refine jblk hF [(.iconst 0, 1)] (by decide +kernel) (pc' := 64) (lo' := [(0, (2, 3)), (1, (0, x)), (2, (0, y)), (3, (0, a)), (4, (0, b)), (5, (0, e))]) (st' := [(0, 0)]) rfl ?_
      refine jzret hF hr (by omega) (by decide +kernel) ?_
      exact lMB0 ⟨hR, by exact ⟨⟨fun w => w.elim, fun w => by omega⟩, (if_neg (by omega)).symm⟩⟩
  · refine jif_eq hF (off := 59) 63 (by decide +kernel) (by decide) (by decide) (fun _ => ?_) (fun h => absurd h (by decide))
    refine jblk hF [(.iconst 0, 1)] (by decide +kernel) (pc' := 64) (lo' := [(0, (2, 3)), (1, (0, x)), (2, (0, y)), (3, (0, a)), (4, (0, b)), (5, (0, e))]) (st' := [(0, 0)]) rfl ?_
    refine jzret hF hr (by omega) (by decide +kernel) ?_
    exact lMB0 ⟨hR, by exact ⟨⟨fun w => w.elim, fun w => by omega⟩, (if_neg (by omega)).symm⟩⟩
set_option maxHeartbeats 4000000 in
set_option maxRecDepth 100000 in
theorem c_X11_mend {l : Launch} {g : GP} (hG : GH g) {kd : Int → Nat} {ln : Int → Int} {mem : Int → Int → Int} {sz : Nat} (hK : HK kd ln) (hR : HR mem) (s : Int) (tg : Int → Int) (hI : INV kd ln mem sz tg) (h_s : InI s) : MT l g yX11_mend cX11_mend 2 (some .boolean) 3 0 0 [(2, 3), (0, s)] kd ln mem sz (pMB (fun c mem' => HR mem' ∧ ((c ↔ mendC mem s) ∧ mem' = (if mendC mem s then set2 mem (mem (mem 30 1) s) 5 (mem 35 0) else mem))) kd ln sz) := by
  refine MT_of hG (by decide +kernel) (Nat.le_of_ble_eq_true rfl) (fun z hF hr hn => ?_)
  obtain ⟨⟨q0, q1, q2, q3, q4, q5⟩, u0, u2, u46, u89, usz⟩ := hI.num
  have n30 : 0 ≤ mem 35 45 ∧ mem 35 45 ≤ 60 := ⟨hI.sls.1, hI.sls.2.1⟩
  obtain ⟨e30, k30, r30, b30, c30⟩ := hI.g30.ls
  refine jblk hF [(.iload_n 1, 1), (.iconst 0, 1), (.aload_n 0, 1)] (by decide +kernel) (pc' := 3) (lo' := [(0, (2, 3)), (1, (0, s))]) (st' := [(2, 3), (0, 0), (0, s)]) rfl ?_
  refine jget hF 12 15 2 15 rfl (by decide) (by decide) rfl wd_341 (by decide +kernel) (by exact hK.k3) ?_
  rw [HR.r3_15 hR]
  refine jcallV hF (c_Jx4a65c_size_8abf5 hG 30 (by first | assumption | omega)) MW_Jx4a65c_size_8abf5 0 (by decide) (by exact hK.k30) wd_410 wd_411 wd_412 (by decide +kernel) [(0, 0), (0, s)] rfl rfl (by decide) (Nat.le_of_ble_eq_true rfl) (by decide) (kV ?_)
  rw [e30]
  refine jblk hF [(.iconst 1, 1), (.isub, 1)] (by decide +kernel) (pc' := 11) (lo' := [(0, (2, 3)), (1, (0, s))]) (st' := [(0, (mem 35 45) - 1), (0, 0), (0, s)]) rfl ?_
  refine jcallS hF (c_X11_within hG s 0 ((mem 35 45) - 1) (by omega) (by decide) (by omega)) MW_X11_within wd_391 wd_392 (by decide +kernel) [] rfl rfl (by decide) (Nat.le_of_ble_eq_true rfl) (by decide) (kB (fun h_1 => ?_) (fun h_1 => ?_))
  · refine jif_eq hF (off := 21) 35 (by decide +kernel) (by decide) (by decide) (fun h => absurd h (by decide)) (fun _ => ?_)
    refine jblk hF [(.aload_n 0, 1)] (by decide +kernel) (pc' := 18) (lo' := [(0, (2, 3)), (1, (0, s))]) (st' := [(2, 3)]) rfl ?_
    refine jget hF 12 15 2 15 rfl (by decide) (by decide) rfl wd_341 (by decide +kernel) (by exact hK.k3) ?_
    rw [HR.r3_15 hR]
    refine jblk hF [(.iload_n 1, 1)] (by decide +kernel) (pc' := 22) (lo' := [(0, (2, 3)), (1, (0, s))]) (st' := [(0, s), (2, 30)]) rfl ?_
    refine jcallV hF (c_Jx4a65c_get_915e3 hG 30 s (by first | assumption | omega) (by first | assumption | omega) (by omega)) MW_Jx4a65c_get_915e3 0 (by decide) (by exact hK.k30) wd_498 wd_499 wd_500 (by decide +kernel) [] rfl rfl (by decide) (Nat.le_of_ble_eq_true rfl) (by decide) (kV ?_)
    obtain ⟨sl, hsl⟩ : ∃ y : Int, y = mem (mem 30 1) s := ⟨_, rfl⟩
    have hob := hI.slp (s := s) (by omega) (by omega)
    rw [← hsl]
    rw [← hsl] at hob
    have hok := hob.1
    obtain ⟨g1, g2, g3, g4, g5, g6⟩ := hob.2.1
    have hsf := hob.2.2
    refine jcast hF 9 (by decide) wd_895 (by decide +kernel) (by first | exact hok.1 | assumption | omega) ?_
    refine jget hF 9 5 0 5 rfl (by decide) (by decide) rfl wd_914 (by decide +kernel) (by first | exact hok.1 | assumption | omega) ?_
    refine jblk hF [(.iconst (-1), 1)] (by decide +kernel) (pc' := 32) (lo' := [(0, (2, 3)), (1, (0, s))]) (st' := [(0, (-1)), (0, mem sl 5)]) rfl ?_
    refine jicmp_eq hF (off := 5) 37 (by decide +kernel) (by decide) (by omega) (by decide) (fun h_3 => ?_) (fun h_3 => ?_)
    · refine jblk hF [(.aload_n 0, 1)] (by decide +kernel) (pc' := 38) (lo' := [(0, (2, 3)), (1, (0, s))]) (st' := [(2, 3)]) rfl ?_
      refine jget hF 12 15 2 15 rfl (by decide) (by decide) rfl wd_341 (by decide +kernel) (by exact hK.k3) ?_
      rw [HR.r3_15 hR]
      refine jblk hF [(.iload_n 1, 1)] (by decide +kernel) (pc' := 42) (lo' := [(0, (2, 3)), (1, (0, s))]) (st' := [(0, s), (2, 30)]) rfl ?_
      refine jcallV hF (c_Jx4a65c_get_915e3 hG 30 s (by first | assumption | omega) (by first | assumption | omega) (by omega)) MW_Jx4a65c_get_915e3 0 (by decide) (by exact hK.k30) wd_498 wd_499 wd_500 (by decide +kernel) [] rfl rfl (by decide) (Nat.le_of_ble_eq_true rfl) (by decide) (kV ?_)
      rw [← hsl]
      refine jcast hF 9 (by decide) wd_895 (by decide +kernel) (by first | exact hok.1 | assumption | omega) ?_
      refine jblk hF [(.aload_n 0, 1)] (by decide +kernel) (pc' := 49) (lo' := [(0, (2, 3)), (1, (0, s))]) (st' := [(2, 3), (2, sl)]) rfl ?_
      refine jget hF 12 0 0 0 rfl (by decide) (by decide) rfl wd_326 (by decide +kernel) (by exact hK.k3) ?_
      refine jput hF 9 5 0 5 rfl (by decide) (by decide) rfl wd_914 (by decide +kernel) rfl (Or.inl rfl) (by first | exact hok.1 | assumption | omega) (fun h => by cases h) ?_
      refine jblk hF [(.iconst 1, 1)] (by decide +kernel) (pc' := 56) (lo' := [(0, (2, 3)), (1, (0, s))]) (st' := [(0, 1)]) rfl ?_
      refine jzret hF hr (by omega) (by decide +kernel) ?_
      exact lMB1 ⟨(HR.s hR (by omega)), by first | exact ⟨⟨fun _ => by omega, fun _ => trivial⟩, by rw [if_pos (by omega), q0]⟩ | exact ⟨⟨fun w => w.elim, fun w => by omega⟩, (if_neg (by omega)).symm⟩⟩
    · refine jblk hF [(.iconst 0, 1)] (by decide +kernel) (pc' := 36) (lo' := [(0, (2, 3)), (1, (0, s))]) (st' := [(0, 0)]) rfl ?_
      refine jzret hF hr (by omega) (by decide +kernel) ?_
      exact lMB0 ⟨hR, by first | exact ⟨⟨fun _ => by omega, fun _ => trivial⟩, by rw [if_pos (by omega), q0]⟩ | exact ⟨⟨fun w => w.elim, fun w => by omega⟩, (if_neg (by omega)).symm⟩⟩
  · refine jif_eq hF (off := 21) 35 (by decide +kernel) (by decide) (by decide) (fun _ => ?_) (fun h => absurd h (by decide))
    refine jblk hF [(.iconst 0, 1)] (by decide +kernel) (pc' := 36) (lo' := [(0, (2, 3)), (1, (0, s))]) (st' := [(0, 0)]) rfl ?_
    refine jzret hF hr (by omega) (by decide +kernel) ?_
    exact lMB0 ⟨hR, by first | exact ⟨⟨fun _ => by omega, fun _ => trivial⟩, by rw [if_pos (by omega), q0]⟩ | exact ⟨⟨fun w => w.elim, fun w => by omega⟩, (if_neg (by omega)).symm⟩⟩
set_option maxHeartbeats 4000000 in
set_option maxRecDepth 100000 in
theorem c_X11_put {l : Launch} {g : GP} (hG : GH g) {kd : Int → Nat} {ln : Int → Int} {mem : Int → Int → Int} {sz : Nat} (hK : HK kd ln) (hR : HR mem) (s j w : Int) (tg : Int → Int) (hI : INV kd ln mem sz tg) (h_s : InI s) (h_j : InI j) (h_w : InI w) : MT l g yX11_put cX11_put 5 (some .boolean) 4 0 0 [(2, 3), (0, s), (0, j), (0, w)] kd ln mem sz (pMB (fun c mem' => HR mem' ∧ ((c ↔ putC mem s j w) ∧ mem' = (if putC mem s j w then set2 mem (mem (mem (mem 34 1) s) 1) j (shV (mem 97 s) w) else mem))) kd ln sz) := by
  refine MT_of hG (by decide +kernel) (Nat.le_of_ble_eq_true rfl) (fun z hF hr hn => ?_)
  obtain ⟨⟨q0, q1, q2, q3, q4, q5⟩, u0, u2, u46, u89, usz⟩ := hI.num
  have n34 : 0 ≤ mem 35 88 ∧ mem 35 88 ≤ 8 := ⟨hI.shs.1, hI.shs.2.1⟩
  obtain ⟨e34, k34, r34, b34, c34⟩ := hI.g34.ls
  refine jblk hF [(.aload_n 0, 1), (.iload_n 1, 1)] (by decide +kernel) (pc' := 2) (lo' := [(0, (2, 3)), (1, (0, s)), (2, (0, j)), (3, (0, w))]) (st' := [(0, s), (2, 3)]) rfl ?_
  refine jcallV hF (c_X11_sheetAt hG hK hR s (by exact tg) (by assumption) (by omega)) MW_X11_sheetAt 12 (by decide) (by exact hK.k3) wd_1257 wd_1259 wd_p39 (by decide +kernel) [] rfl rfl (by decide) (Nat.le_of_ble_eq_true rfl) (by decide) (kR (fun v_1 h_2 => ?_))
  have hv := h_2
  refine jblk hF [(.astore 4, 2), (.aload 4, 2)] (by decide +kernel) (pc' := 9) (lo' := [(4, (2, v_1)), (0, (2, 3)), (1, (0, s)), (2, (0, j)), (3, (0, w))]) (st' := [(2, v_1)]) rfl ?_
  refine jnull hF (off := 34) 43 (by decide +kernel) (by decide) (fun h_3 => ?_) (fun h_3 => ?_)
  · have hng : ¬ putC mem s j w := fun u => by first | omega | exact (hv.2 (by omega)).1 u.1
    refine jblk hF [(.iconst 0, 1)] (by decide +kernel) (pc' := 44) (lo' := [(4, (2, v_1)), (0, (2, 3)), (1, (0, s)), (2, (0, j)), (3, (0, w))]) (st' := [(0, 0)]) rfl ?_
    refine jzret hF hr (by omega) (by decide +kernel) ?_
    exact lMB0 ⟨hR, by exact ⟨⟨fun u => u.elim, fun u => absurd u hng⟩, (if_neg hng).symm⟩⟩
  · obtain ⟨hpg, hpo⟩ := hv.1 (by omega)
    obtain ⟨k9, ow, ⟨o1, ⟨o2, o3, o4, o5, o6⟩, o7, o8⟩, evs⟩ := id hpo
    have hsh := hI.shs.2.2 s (by omega) (by omega)
    refine jblk hF [(.aload 4, 2)] (by decide +kernel) (pc' := 14) (lo' := [(4, (2, v_1)), (0, (2, 3)), (1, (0, s)), (2, (0, j)), (3, (0, w))]) (st' := [(2, v_1)]) rfl ?_
    refine jget hF 8 2 0 2 rfl (by decide) (by decide) rfl wd_1245 (by decide +kernel) (by first | exact k9 | exact o2 | assumption | omega) ?_
    refine jif_ne hF (off := 26) 43 (by decide +kernel) (by decide) (by omega) (fun h_4 => ?_) (fun h_4 => ?_)
    · have hng : ¬ putC mem s j w := fun u => by first | omega | exact (hv.2 (by omega)).1 u.1
      refine jblk hF [(.iconst 0, 1)] (by decide +kernel) (pc' := 44) (lo' := [(4, (2, v_1)), (0, (2, 3)), (1, (0, s)), (2, (0, j)), (3, (0, w))]) (st' := [(0, 0)]) rfl ?_
      refine jzret hF hr (by omega) (by decide +kernel) ?_
      exact lMB0 ⟨hR, by exact ⟨⟨fun u => u.elim, fun u => absurd u hng⟩, (if_neg hng).symm⟩⟩
    · refine jblk hF [(.iload_n 2, 1), (.iconst 0, 1), (.bipush 39, 2)] (by decide +kernel) (pc' := 24) (lo' := [(4, (2, v_1)), (0, (2, 3)), (1, (0, s)), (2, (0, j)), (3, (0, w))]) (st' := [(0, 39), (0, 0), (0, j)]) rfl ?_
      refine jcallS hF (c_X11_within hG j 0 39 (by omega) (by decide) (by decide)) MW_X11_within wd_391 wd_392 (by decide +kernel) [] rfl rfl (by decide) (Nat.le_of_ble_eq_true rfl) (by decide) (kB (fun h_5 => ?_) (fun h_5 => ?_))
      · refine jif_eq hF (off := 16) 43 (by decide +kernel) (by decide) (by decide) (fun h => absurd h (by decide)) (fun _ => ?_)
        refine jblk hF [(.iload_n 3, 1)] (by decide +kernel) (pc' := 31) (lo' := [(4, (2, v_1)), (0, (2, 3)), (1, (0, s)), (2, (0, j)), (3, (0, w))]) (st' := [(0, w)]) rfl ?_
        refine jldcw hF (-1000000000) (cst_i wd_1261 (by decide)) (by decide +kernel) ?_
        refine jldcw hF 1000000000 (cst_i wd_1262 (by decide)) (by decide +kernel) ?_
        refine jcallS hF (c_X11_within hG w (-1000000000) 1000000000 (by omega) (by decide) (by decide)) MW_X11_within wd_391 wd_392 (by decide +kernel) [] rfl rfl (by decide) (Nat.le_of_ble_eq_true rfl) (by decide) (kB (fun h_7 => ?_) (fun h_7 => ?_))
        · refine jif_ne hF (off := 5) 45 (by decide +kernel) (by decide) (by decide) (fun _ => ?_) (fun h => absurd h (by decide))
          refine jblk hF [(.aload 4, 2)] (by decide +kernel) (pc' := 47) (lo' := [(4, (2, v_1)), (0, (2, 3)), (1, (0, s)), (2, (0, j)), (3, (0, w))]) (st' := [(2, v_1)]) rfl ?_
          refine jget hF 8 1 2 1 rfl (by decide) (by decide) rfl wd_1243 (by decide +kernel) (by first | exact k9 | exact o2 | assumption | omega) ?_
          refine jblk hF [(.iload_n 2, 1), (.aload 4, 2), (.iload_n 3, 1)] (by decide +kernel) (pc' := 54) (lo' := [(4, (2, v_1)), (0, (2, 3)), (1, (0, s)), (2, (0, j)), (3, (0, w))]) (st' := [(0, w), (2, v_1), (0, j), (2, mem v_1 1)]) rfl ?_
          refine jcallV hF (c_X7_cut hG v_1 w (by first | assumption | omega) (by omega) (by omega)) MW_X7_cut 8 (by decide) (by first | exact k9 | exact o2 | assumption | omega) wd_1263 wd_1264 wd_1265 (by decide +kernel) [(0, j), (2, mem v_1 1)] rfl rfl (by decide) (Nat.le_of_ble_eq_true rfl) (by decide) (kV ?_)
          rw [o1]
          refine jlast hF (by decide +kernel) (by omega) (by first | exact k9 | exact o2 | assumption | omega) (by omega) (by omega) ?_
          refine jblk hF [(.iconst 1, 1)] (by decide +kernel) (pc' := 59) (lo' := [(4, (2, v_1)), (0, (2, 3)), (1, (0, s)), (2, (0, j)), (3, (0, w))]) (st' := [(0, 1)]) rfl ?_
          refine jzret hF hr (by omega) (by decide +kernel) ?_
          exact lMB1 ⟨(HR.s hR (by omega)), by exact ⟨⟨fun _ => by omega, fun _ => trivial⟩, by rw [if_pos (by omega), ← evs]⟩⟩
        · refine jif_ne hF (off := 5) 45 (by decide +kernel) (by decide) (by decide) (fun h => absurd h (by decide)) (fun _ => ?_)
          have hng : ¬ putC mem s j w := fun u => by first | omega | exact (hv.2 (by omega)).1 u.1
          refine jblk hF [(.iconst 0, 1)] (by decide +kernel) (pc' := 44) (lo' := [(4, (2, v_1)), (0, (2, 3)), (1, (0, s)), (2, (0, j)), (3, (0, w))]) (st' := [(0, 0)]) rfl ?_
          refine jzret hF hr (by omega) (by decide +kernel) ?_
          exact lMB0 ⟨hR, by exact ⟨⟨fun u => u.elim, fun u => absurd u hng⟩, (if_neg hng).symm⟩⟩
      · refine jif_eq hF (off := 16) 43 (by decide +kernel) (by decide) (by decide) (fun _ => ?_) (fun h => absurd h (by decide))
        have hng : ¬ putC mem s j w := fun u => by first | omega | exact (hv.2 (by omega)).1 u.1
        refine jblk hF [(.iconst 0, 1)] (by decide +kernel) (pc' := 44) (lo' := [(4, (2, v_1)), (0, (2, 3)), (1, (0, s)), (2, (0, j)), (3, (0, w))]) (st' := [(0, 0)]) rfl ?_
        refine jzret hF hr (by omega) (by decide +kernel) ?_
        exact lMB0 ⟨hR, by exact ⟨⟨fun u => u.elim, fun u => absurd u hng⟩, (if_neg hng).symm⟩⟩
set_option maxHeartbeats 4000000 in
set_option maxRecDepth 100000 in
theorem c_X11_lose {l : Launch} {g : GP} (hG : GH g) {kd : Int → Nat} {ln : Int → Int} {mem : Int → Int → Int} {sz : Nat} (hK : HK kd ln) (hR : HR mem) (s : Int) (tg : Int → Int) (hI : INV kd ln mem sz tg) (h_s : InI s) : MT l g yX11_lose cX11_lose 3 (some .boolean) 4 0 0 [(2, 3), (0, s)] kd ln mem sz (pMB (fun c mem' => HR mem' ∧ ((c ↔ (isSh mem s ∧ mem 98 s = 0)) ∧ mem' = (if (isSh mem s ∧ mem 98 s = 0) then set2 mem (mem (mem 34 1) s) 2 1 else mem))) kd ln sz) := by
  refine MT_of hG (by decide +kernel) (Nat.le_of_ble_eq_true rfl) (fun z hF hr hn => ?_)
  obtain ⟨⟨q0, q1, q2, q3, q4, q5⟩, u0, u2, u46, u89, usz⟩ := hI.num
  have n34 : 0 ≤ mem 35 88 ∧ mem 35 88 ≤ 8 := ⟨hI.shs.1, hI.shs.2.1⟩
  obtain ⟨e34, k34, r34, b34, c34⟩ := hI.g34.ls
  refine jblk hF [(.aload_n 0, 1), (.iload_n 1, 1)] (by decide +kernel) (pc' := 2) (lo' := [(0, (2, 3)), (1, (0, s))]) (st' := [(0, s), (2, 3)]) rfl ?_
  refine jcallV hF (c_X11_sheetAt hG hK hR s (by exact tg) (by assumption) (by omega)) MW_X11_sheetAt 12 (by decide) (by exact hK.k3) wd_1257 wd_1259 wd_p39 (by decide +kernel) [] rfl rfl (by decide) (Nat.le_of_ble_eq_true rfl) (by decide) (kR (fun v_1 h_2 => ?_))
  have hv := h_2
  refine jblk hF [(.astore_n 2, 1), (.aload_n 2, 1)] (by decide +kernel) (pc' := 7) (lo' := [(2, (2, v_1)), (0, (2, 3)), (1, (0, s))]) (st' := [(2, v_1)]) rfl ?_
  refine jnull hF (off := 10) 17 (by decide +kernel) (by decide) (fun h_3 => ?_) (fun h_3 => ?_)
  · have hng : ¬ (isSh mem s ∧ mem 98 s = 0) := fun u => by first | omega | exact (hv.2 (by omega)).1 u.1
    refine jblk hF [(.iconst 0, 1)] (by decide +kernel) (pc' := 18) (lo' := [(2, (2, v_1)), (0, (2, 3)), (1, (0, s))]) (st' := [(0, 0)]) rfl ?_
    refine jzret hF hr (by omega) (by decide +kernel) ?_
    exact lMB0 ⟨hR, by exact ⟨⟨fun u => u.elim, fun u => absurd u hng⟩, (if_neg hng).symm⟩⟩
  · obtain ⟨hpg, hpo⟩ := hv.1 (by omega)
    obtain ⟨k9, ow, ⟨o1, ⟨o2, o3, o4, o5, o6⟩, o7, o8⟩, evs⟩ := id hpo
    have hsh := hI.shs.2.2 s (by omega) (by omega)
    refine jblk hF [(.aload_n 2, 1)] (by decide +kernel) (pc' := 11) (lo' := [(2, (2, v_1)), (0, (2, 3)), (1, (0, s))]) (st' := [(2, v_1)]) rfl ?_
    refine jget hF 8 2 0 2 rfl (by decide) (by decide) rfl wd_1245 (by decide +kernel) (by first | exact k9 | exact o2 | assumption | omega) ?_
    refine jif_eq hF (off := 5) 19 (by decide +kernel) (by decide) (by omega) (fun h_4 => ?_) (fun h_4 => ?_)
    · refine jblk hF [(.aload_n 2, 1), (.iconst 1, 1)] (by decide +kernel) (pc' := 21) (lo' := [(2, (2, v_1)), (0, (2, 3)), (1, (0, s))]) (st' := [(0, 1), (2, v_1)]) rfl ?_
      refine jput hF 8 2 0 2 rfl (by decide) (by decide) rfl wd_1245 (by decide +kernel) rfl (Or.inr (Or.inl rfl)) (by first | exact k9 | exact o2 | assumption | omega) (fun _ => by omega) ?_
      refine jblk hF [(.iconst 1, 1)] (by decide +kernel) (pc' := 25) (lo' := [(2, (2, v_1)), (0, (2, 3)), (1, (0, s))]) (st' := [(0, 1)]) rfl ?_
      refine jzret hF hr (by omega) (by decide +kernel) ?_
      exact lMB1 ⟨(HR.s hR (by omega)), by exact ⟨⟨fun _ => by omega, fun _ => trivial⟩, by rw [if_pos (by omega), ← evs]⟩⟩
    · have hng : ¬ (isSh mem s ∧ mem 98 s = 0) := fun u => by first | omega | exact (hv.2 (by omega)).1 u.1
      refine jblk hF [(.iconst 0, 1)] (by decide +kernel) (pc' := 18) (lo' := [(2, (2, v_1)), (0, (2, 3)), (1, (0, s))]) (st' := [(0, 0)]) rfl ?_
      refine jzret hF hr (by omega) (by decide +kernel) ?_
      exact lMB0 ⟨hR, by exact ⟨⟨fun u => u.elim, fun u => absurd u hng⟩, (if_neg hng).symm⟩⟩
set_option maxHeartbeats 4000000 in
set_option maxRecDepth 100000 in
theorem c_X11_tell {l : Launch} {g : GP} (hG : GH g) {kd : Int → Nat} {ln : Int → Int} {mem : Int → Int → Int} {sz : Nat} (hK : HK kd ln) (hR : HR mem) (t n x : Int) (tg : Int → Int) (hI : INV kd ln mem sz tg) (h_t : InI t) (h_n : InI n) : MT l g yX11_tell cX11_tell 5 (some .boolean) 5 0 0 [(2, 3), (0, t), (0, n), (1, x)] kd ln mem sz (pMB (fun c mem' => HR mem' ∧ ((c ↔ tellC mem t n) ∧ mem' = (if tellC mem t n then set2 mem (mem (mem (mem 32 1) t) 1) n x else mem))) kd ln sz) := by
  refine MT_of hG (by decide +kernel) (Nat.le_of_ble_eq_true rfl) (fun z hF hr hn => ?_)
  obtain ⟨⟨q0, q1, q2, q3, q4, q5⟩, u0, u2, u46, u89, usz⟩ := hI.num
  have n32 : 0 ≤ mem 35 84 ∧ mem 35 84 ≤ 8 := ⟨hI.ots.1, hI.ots.2.1⟩
  have n29 : 0 ≤ mem 35 33 ∧ mem 35 33 ≤ 12 := ⟨hI.pgs.1, hI.pgs.2.1⟩
  obtain ⟨e32, k32, r32, b32, c32⟩ := hI.g32.ls
  obtain ⟨e29, k29, r29, b29, c29⟩ := hI.g29.ls
  refine jblk hF [(.iload_n 1, 1), (.iconst 0, 1), (.aload_n 0, 1)] (by decide +kernel) (pc' := 3) (lo' := [(0, (2, 3)), (1, (0, t)), (2, (0, n)), (3, (1, x))]) (st' := [(2, 3), (0, 0), (0, t)]) rfl ?_
  refine jget hF 12 17 2 17 rfl (by decide) (by decide) rfl wd_343 (by decide +kernel) (by exact hK.k3) ?_
  rw [HR.r3_17 hR]
  refine jcallV hF (c_Jx4a65c_size_8abf5 hG 32 (by first | assumption | omega)) MW_Jx4a65c_size_8abf5 0 (by decide) (by exact hK.k32) wd_410 wd_411 wd_412 (by decide +kernel) [(0, 0), (0, t)] rfl rfl (by decide) (Nat.le_of_ble_eq_true rfl) (by decide) (kV ?_)
  rw [e32]
  refine jblk hF [(.iconst 1, 1), (.isub, 1)] (by decide +kernel) (pc' := 11) (lo' := [(0, (2, 3)), (1, (0, t)), (2, (0, n)), (3, (1, x))]) (st' := [(0, (mem 35 84) - 1), (0, 0), (0, t)]) rfl ?_
  refine jcallS hF (c_X11_within hG t 0 ((mem 35 84) - 1) (by omega) (by decide) (by omega)) MW_X11_within wd_391 wd_392 (by decide +kernel) [] rfl rfl (by decide) (Nat.le_of_ble_eq_true rfl) (by decide) (kB (fun h_1 => ?_) (fun h_1 => ?_))
  · refine jif_eq hF (off := 25) 39 (by decide +kernel) (by decide) (by decide) (fun h => absurd h (by decide)) (fun _ => ?_)
    refine jblk hF [(.aload_n 0, 1), (.aload_n 0, 1)] (by decide +kernel) (pc' := 19) (lo' := [(0, (2, 3)), (1, (0, t)), (2, (0, n)), (3, (1, x))]) (st' := [(2, 3), (2, 3)]) rfl ?_
    refine jget hF 12 17 2 17 rfl (by decide) (by decide) rfl wd_343 (by decide +kernel) (by exact hK.k3) ?_
    rw [HR.r3_17 hR]
    refine jblk hF [(.iload_n 1, 1)] (by decide +kernel) (pc' := 23) (lo' := [(0, (2, 3)), (1, (0, t)), (2, (0, n)), (3, (1, x))]) (st' := [(0, t), (2, 32), (2, 3)]) rfl ?_
    refine jcallV hF (c_Jx4a65c_get_915e3 hG 32 t (by first | assumption | omega) (by first | assumption | omega) (by omega)) MW_Jx4a65c_get_915e3 0 (by decide) (by exact hK.k32) wd_498 wd_499 wd_500 (by decide +kernel) [(2, 3)] rfl rfl (by decide) (Nat.le_of_ble_eq_true rfl) (by decide) (kV ?_)
    obtain ⟨cc, hcc⟩ : ∃ y : Int, y = mem (mem 32 1) t := ⟨_, rfl⟩
    have hob := hI.oth (c := t) (by omega) (by omega)
    rw [← hcc] at hob
    rw [← hcc]
    have hko := hob.1
    have ho := hob.2.1.1
    obtain ⟨o1, o2, o3⟩ := hob.2.2
    have hcp := hI.ots.2.2 t (by omega) (by omega)
    have hpgc := hI.pgs.2.2 (mem 94 t) (by omega) (by omega)
    have hkr := o2.1
    have hlr := o2.2.1
    have hrr := o2.2.2.1
    refine jcast hF 10 (by decide) wd_1164 (by decide +kernel) (by first | exact hko | exact hkr | assumption | omega) ?_
    refine jget hF 10 0 0 0 rfl (by decide) (by decide) rfl wd_1171 (by decide +kernel) (by first | exact hko | exact hkr | assumption | omega) ?_
    rw [o1]
    refine jblk hF [(.iload_n 2, 1)] (by decide +kernel) (pc' := 33) (lo' := [(0, (2, 3)), (1, (0, t)), (2, (0, n)), (3, (1, x))]) (st' := [(0, n), (0, mem 94 t), (2, 3)]) rfl ?_
    refine jcallV hF (c_X11_pageWith hG hK hR (mem 94 t) n (by exact tg) (by assumption) (by omega) (by omega)) MW_X11_pageWith 12 (by decide) (by exact hK.k3) wd_869 wd_871 wd_p25 (by decide +kernel) [] rfl rfl (by decide) (Nat.le_of_ble_eq_true rfl) (by decide) (kR (fun v_3 h_4 => ?_))
    have hv := h_4
    refine jnonnull hF (off := 5) 41 (by decide +kernel) (by decide) (fun h_5 => ?_) (fun h_5 => ?_)
    · have hpg := (hv.1 (by omega)).1
      refine jblk hF [(.aload_n 0, 1)] (by decide +kernel) (pc' := 42) (lo' := [(0, (2, 3)), (1, (0, t)), (2, (0, n)), (3, (1, x))]) (st' := [(2, 3)]) rfl ?_
      refine jget hF 12 17 2 17 rfl (by decide) (by decide) rfl wd_343 (by decide +kernel) (by exact hK.k3) ?_
      rw [HR.r3_17 hR]
      refine jblk hF [(.iload_n 1, 1)] (by decide +kernel) (pc' := 46) (lo' := [(0, (2, 3)), (1, (0, t)), (2, (0, n)), (3, (1, x))]) (st' := [(0, t), (2, 32)]) rfl ?_
      refine jcallV hF (c_Jx4a65c_get_915e3 hG 32 t (by first | assumption | omega) (by first | assumption | omega) (by omega)) MW_Jx4a65c_get_915e3 0 (by decide) (by exact hK.k32) wd_498 wd_499 wd_500 (by decide +kernel) [] rfl rfl (by decide) (Nat.le_of_ble_eq_true rfl) (by decide) (kV ?_)
      rw [← hcc]
      refine jcast hF 10 (by decide) wd_1164 (by decide +kernel) (by first | exact hko | exact hkr | assumption | omega) ?_
      refine jget hF 10 1 2 1 rfl (by decide) (by decide) rfl wd_1173 (by decide +kernel) (by first | exact hko | exact hkr | assumption | omega) ?_
      refine jblk hF [(.iload_n 2, 1), (.lload_n 3, 1)] (by decide +kernel) (pc' := 57) (lo' := [(0, (2, 3)), (1, (0, t)), (2, (0, n)), (3, (1, x))]) (st' := [(1, x), (0, n), (2, mem cc 1)]) rfl ?_
      refine jlast hF (by decide +kernel) (by omega) (by first | exact hko | exact hkr | assumption | omega) (by omega) (by omega) ?_
      refine jblk hF [(.iconst 1, 1)] (by decide +kernel) (pc' := 59) (lo' := [(0, (2, 3)), (1, (0, t)), (2, (0, n)), (3, (1, x))]) (st' := [(0, 1)]) rfl ?_
      refine jzret hF hr (by omega) (by decide +kernel) ?_
      exact lMB1 ⟨(HR.s hR (by omega)), by exact ⟨⟨fun _ => ⟨by omega, hpg.2⟩, fun _ => trivial⟩, by rw [if_pos ⟨by omega, hpg.2⟩]⟩⟩
    · have hng : ¬ tellC mem t n := fun u => by first | omega | exact (hv.2 (by omega)).1 ⟨⟨by omega, by omega⟩, u.2⟩
      refine jblk hF [(.iconst 0, 1)] (by decide +kernel) (pc' := 40) (lo' := [(0, (2, 3)), (1, (0, t)), (2, (0, n)), (3, (1, x))]) (st' := [(0, 0)]) rfl ?_
      refine jzret hF hr (by omega) (by decide +kernel) ?_
      exact lMB0 ⟨hR, by exact ⟨⟨fun u => u.elim, fun u => absurd u hng⟩, (if_neg hng).symm⟩⟩
  · refine jif_eq hF (off := 25) 39 (by decide +kernel) (by decide) (by decide) (fun _ => ?_) (fun h => absurd h (by decide))
    have hng : ¬ tellC mem t n := fun u => by first | omega | exact (hv.2 (by omega)).1 ⟨⟨by omega, by omega⟩, u.2⟩
    refine jblk hF [(.iconst 0, 1)] (by decide +kernel) (pc' := 40) (lo' := [(0, (2, 3)), (1, (0, t)), (2, (0, n)), (3, (1, x))]) (st' := [(0, 0)]) rfl ?_
    refine jzret hF hr (by omega) (by decide +kernel) ?_
    exact lMB0 ⟨hR, by exact ⟨⟨fun u => u.elim, fun u => absurd u hng⟩, (if_neg hng).symm⟩⟩
set_option maxHeartbeats 4000000 in
set_option maxRecDepth 100000 in
theorem c_X11_apply {l : Launch} {g : GP} (hG : GH g) {kd : Int → Nat} {ln : Int → Int} {mem : Int → Int → Int} {sz : Nat} (hK : HK kd ln) (hR : HR mem) (c e : Int) (tg : Int → Int) (hI : INV kd ln mem sz tg) (h_c : InI c) (h_e : InI e) : MT l g yX11_apply cX11_apply 5 (some .int) 3 0 0 [(2, 3), (0, c), (0, e)] kd ln mem sz (pMR 0 (fun v mem' => HR mem' ∧ ((¬ appC mem c e → v = 2 ∧ mem' = mem) ∧ (appC mem c e → ¬ wL (mem 89 (40 * c + mem 91 e)) = wL (mem 92 e) → v = 1 ∧ mem' = mem) ∧ (appC mem c e → wL (mem 89 (40 * c + mem 91 e)) = wL (mem 92 e) → v = 0 ∧ mem' = set2 mem (mem (mem (mem 31 1) c) 1) (mem 91 e) (mem 93 e)))) kd ln sz) := by
  refine MT_of hG (by decide +kernel) (Nat.le_of_ble_eq_true rfl) (fun z hF hr hn => ?_)
  obtain ⟨⟨q0, q1, q2, q3, q4, q5⟩, u0, u2, u46, u89, usz⟩ := hI.num
  have n31 : 0 ≤ mem 35 79 ∧ mem 35 79 ≤ 8 := ⟨hI.cps.1, hI.cps.2.1⟩
  have n33 : 0 ≤ mem 35 80 ∧ mem 35 80 ≤ 40 := ⟨hI.ers.1, hI.ers.2.1⟩
  have n29 : 0 ≤ mem 35 33 ∧ mem 35 33 ≤ 12 := ⟨hI.pgs.1, hI.pgs.2.1⟩
  obtain ⟨e31, k31, r31, b31, c31⟩ := hI.g31.ls
  obtain ⟨e33, k33, r33, b33, c33⟩ := hI.g33.ls
  obtain ⟨e29, k29, r29, b29, c29⟩ := hI.g29.ls
  refine jblk hF [(.iload_n 1, 1), (.iconst 0, 1), (.aload_n 0, 1)] (by decide +kernel) (pc' := 3) (lo' := [(0, (2, 3)), (1, (0, c)), (2, (0, e))]) (st' := [(2, 3), (0, 0), (0, c)]) rfl ?_
  refine jget hF 12 16 2 16 rfl (by decide) (by decide) rfl wd_342 (by decide +kernel) (by exact hK.k3) ?_
  rw [HR.r3_16 hR]
  refine jcallV hF (c_Jx4a65c_size_8abf5 hG 31 (by first | assumption | omega)) MW_Jx4a65c_size_8abf5 0 (by decide) (by exact hK.k31) wd_410 wd_411 wd_412 (by decide +kernel) [(0, 0), (0, c)] rfl rfl (by decide) (Nat.le_of_ble_eq_true rfl) (by decide) (kV ?_)
  rw [e31]
  refine jblk hF [(.iconst 1, 1), (.isub, 1)] (by decide +kernel) (pc' := 11) (lo' := [(0, (2, 3)), (1, (0, c)), (2, (0, e))]) (st' := [(0, (mem 35 79) - 1), (0, 0), (0, c)]) rfl ?_
  refine jcallS hF (c_X11_within hG c 0 ((mem 35 79) - 1) (by omega) (by decide) (by omega)) MW_X11_within wd_391 wd_392 (by decide +kernel) [] rfl rfl (by decide) (Nat.le_of_ble_eq_true rfl) (by decide) (kB (fun h_1 => ?_) (fun h_1 => ?_))
  · refine jif_eq hF (off := 20) 34 (by decide +kernel) (by decide) (by decide) (fun h => absurd h (by decide)) (fun _ => ?_)
    refine jblk hF [(.iload_n 2, 1), (.iconst 0, 1), (.aload_n 0, 1)] (by decide +kernel) (pc' := 20) (lo' := [(0, (2, 3)), (1, (0, c)), (2, (0, e))]) (st' := [(2, 3), (0, 0), (0, e)]) rfl ?_
    refine jget hF 12 18 2 18 rfl (by decide) (by decide) rfl wd_344 (by decide +kernel) (by exact hK.k3) ?_
    rw [HR.r3_18 hR]
    refine jcallV hF (c_Jx4a65c_size_8abf5 hG 33 (by first | assumption | omega)) MW_Jx4a65c_size_8abf5 0 (by decide) (by exact hK.k33) wd_410 wd_411 wd_412 (by decide +kernel) [(0, 0), (0, e)] rfl rfl (by decide) (Nat.le_of_ble_eq_true rfl) (by decide) (kV ?_)
    rw [e33]
    refine jblk hF [(.iconst 1, 1), (.isub, 1)] (by decide +kernel) (pc' := 28) (lo' := [(0, (2, 3)), (1, (0, c)), (2, (0, e))]) (st' := [(0, (mem 35 80) - 1), (0, 0), (0, e)]) rfl ?_
    refine jcallS hF (c_X11_within hG e 0 ((mem 35 80) - 1) (by omega) (by decide) (by omega)) MW_X11_within wd_391 wd_392 (by decide +kernel) [] rfl rfl (by decide) (Nat.le_of_ble_eq_true rfl) (by decide) (kB (fun h_3 => ?_) (fun h_3 => ?_))
    · refine jif_ne hF (off := 5) 36 (by decide +kernel) (by decide) (by decide) (fun _ => ?_) (fun h => absurd h (by decide))
      refine jblk hF [(.aload_n 0, 1)] (by decide +kernel) (pc' := 37) (lo' := [(0, (2, 3)), (1, (0, c)), (2, (0, e))]) (st' := [(2, 3)]) rfl ?_
      refine jget hF 12 16 2 16 rfl (by decide) (by decide) rfl wd_342 (by decide +kernel) (by exact hK.k3) ?_
      rw [HR.r3_16 hR]
      refine jblk hF [(.iload_n 1, 1)] (by decide +kernel) (pc' := 41) (lo' := [(0, (2, 3)), (1, (0, c)), (2, (0, e))]) (st' := [(0, c), (2, 31)]) rfl ?_
      refine jcallV hF (c_Jx4a65c_get_915e3 hG 31 c (by first | assumption | omega) (by first | assumption | omega) (by omega)) MW_Jx4a65c_get_915e3 0 (by decide) (by exact hK.k31) wd_498 wd_499 wd_500 (by decide +kernel) [] rfl rfl (by decide) (Nat.le_of_ble_eq_true rfl) (by decide) (kV ?_)
      obtain ⟨cc, hcc⟩ : ∃ y : Int, y = mem (mem 31 1) c := ⟨_, rfl⟩
      have hob := hI.cop (c := c) (by omega) (by omega)
      rw [← hcc] at hob
      rw [← hcc]
      have hko := hob.1
      have ho := hob.2.1.1
      obtain ⟨o1, o2, o3⟩ := hob.2.2
      have hcp := hI.cps.2.2 c (by omega) (by omega)
      have hkr := o2.1
      have hlr := o2.2.1
      have hrr := o2.2.2.1
      refine jcast hF 10 (by decide) wd_1164 (by decide +kernel) (by first | exact hko | exact hkr | exact hke | assumption | omega) ?_
      refine jblk hF [(.astore_n 3, 1), (.aload_n 0, 1)] (by decide +kernel) (pc' := 49) (lo' := [(3, (2, cc)), (0, (2, 3)), (1, (0, c)), (2, (0, e))]) (st' := [(2, 3)]) rfl ?_
      refine jget hF 12 18 2 18 rfl (by decide) (by decide) rfl wd_344 (by decide +kernel) (by exact hK.k3) ?_
      rw [HR.r3_18 hR]
      refine jblk hF [(.iload_n 2, 1)] (by decide +kernel) (pc' := 53) (lo' := [(3, (2, cc)), (0, (2, 3)), (1, (0, c)), (2, (0, e))]) (st' := [(0, e), (2, 33)]) rfl ?_
      refine jcallV hF (c_Jx4a65c_get_915e3 hG 33 e (by first | assumption | omega) (by first | assumption | omega) (by omega)) MW_Jx4a65c_get_915e3 0 (by decide) (by exact hK.k33) wd_498 wd_499 wd_500 (by decide +kernel) [] rfl rfl (by decide) (Nat.le_of_ble_eq_true rfl) (by decide) (kV ?_)
      obtain ⟨ee, hee⟩ : ∃ y : Int, y = mem (mem 33 1) e := ⟨_, rfl⟩
      have hoe := hI.err (c := e) (by omega) (by omega)
      rw [← hee] at hoe
      rw [← hee]
      have hke := hoe.1
      have hoq := hoe.2.1.1
      obtain ⟨x1, x2, x3, x4⟩ := hoe.2.2
      have hep := hI.ers.2.2 e (by omega) (by omega)
      have hpge := hI.pgs.2.2 (mem 90 e) (by omega) (by omega)
      refine jcast hF 2 (by decide) wd_1183 (by decide +kernel) (by first | exact hko | exact hkr | exact hke | assumption | omega) ?_
      refine jblk hF [(.astore 4, 2), (.aload_n 3, 1)] (by decide +kernel) (pc' := 62) (lo' := [(4, (2, ee)), (3, (2, cc)), (0, (2, 3)), (1, (0, c)), (2, (0, e))]) (st' := [(2, cc)]) rfl ?_
      refine jget hF 10 0 0 0 rfl (by decide) (by decide) rfl wd_1171 (by decide +kernel) (by first | exact hko | exact hkr | exact hke | assumption | omega) ?_
      refine jblk hF [(.aload 4, 2)] (by decide +kernel) (pc' := 67) (lo' := [(4, (2, ee)), (3, (2, cc)), (0, (2, 3)), (1, (0, c)), (2, (0, e))]) (st' := [(2, ee), (0, mem cc 0)]) rfl ?_
      refine jget hF 2 0 0 0 rfl (by decide) (by decide) rfl wd_1190 (by decide +kernel) (by first | exact hko | exact hkr | exact hke | assumption | omega) ?_
      refine jicmp_eq hF (off := 5) 75 (by decide +kernel) (by decide) (by omega) (by omega) (fun h_5 => ?_) (fun h_5 => ?_)
      · have hpe : mem 90 e = mem 88 c := by omega
        rw [hpe] at hep hpge
        have hon := o3 (mem 91 e) (by omega) (by omega)
        refine jblk hF [(.aload_n 3, 1)] (by decide +kernel) (pc' := 76) (lo' := [(4, (2, ee)), (3, (2, cc)), (0, (2, 3)), (1, (0, c)), (2, (0, e))]) (st' := [(2, cc)]) rfl ?_
        refine jget hF 10 1 2 1 rfl (by decide) (by decide) rfl wd_1173 (by decide +kernel) (by first | exact hko | exact hkr | exact hke | assumption | omega) ?_
        refine jblk hF [(.aload 4, 2)] (by decide +kernel) (pc' := 81) (lo' := [(4, (2, ee)), (3, (2, cc)), (0, (2, 3)), (1, (0, c)), (2, (0, e))]) (st' := [(2, ee), (2, mem cc 1)]) rfl ?_
        refine jget hF 2 1 0 1 rfl (by decide) (by decide) rfl wd_1192 (by decide +kernel) (by first | exact hko | exact hkr | exact hke | assumption | omega) ?_
        rw [x2]
        refine jlald hF (by decide +kernel) (by first | exact hko | exact hkr | exact hke | assumption | omega) (by omega) (by omega) ?_
        refine jblk hF [(.aload 4, 2)] (by decide +kernel) (pc' := 87) (lo' := [(4, (2, ee)), (3, (2, cc)), (0, (2, 3)), (1, (0, c)), (2, (0, e))]) (st' := [(2, ee), (1, mem (mem cc 1) (mem 91 e))]) rfl ?_
        refine jget hF 2 2 1 2 rfl (by decide) (by decide) rfl wd_1194 (by decide +kernel) (by first | exact hko | exact hkr | exact hke | assumption | omega) ?_
        rw [x3, hon]
        refine jlcmpW_eq hF (off := 5) 96 (by decide +kernel) (by decide +kernel) (by decide) (fun h_6 => ?_) (fun h_6 => ?_)
        · refine jblk hF [(.aload_n 3, 1)] (by decide +kernel) (pc' := 97) (lo' := [(4, (2, ee)), (3, (2, cc)), (0, (2, 3)), (1, (0, c)), (2, (0, e))]) (st' := [(2, cc)]) rfl ?_
          refine jget hF 10 1 2 1 rfl (by decide) (by decide) rfl wd_1173 (by decide +kernel) (by first | exact hko | exact hkr | exact hke | assumption | omega) ?_
          refine jblk hF [(.aload 4, 2)] (by decide +kernel) (pc' := 102) (lo' := [(4, (2, ee)), (3, (2, cc)), (0, (2, 3)), (1, (0, c)), (2, (0, e))]) (st' := [(2, ee), (2, mem cc 1)]) rfl ?_
          refine jget hF 2 1 0 1 rfl (by decide) (by decide) rfl wd_1192 (by decide +kernel) (by first | exact hko | exact hkr | exact hke | assumption | omega) ?_
          refine jblk hF [(.aload 4, 2)] (by decide +kernel) (pc' := 107) (lo' := [(4, (2, ee)), (3, (2, cc)), (0, (2, 3)), (1, (0, c)), (2, (0, e))]) (st' := [(2, ee), (0, mem ee 1), (2, mem cc 1)]) rfl ?_
          rw [x2]
          refine jget hF 2 3 1 3 rfl (by decide) (by decide) rfl wd_1196 (by decide +kernel) (by first | exact hko | exact hkr | exact hke | assumption | omega) ?_
          rw [x4]
          refine jlast hF (by decide +kernel) (by omega) (by first | exact hko | exact hkr | exact hke | assumption | omega) (by omega) (by omega) ?_
          refine jblk hF [(.iconst 0, 1)] (by decide +kernel) (pc' := 112) (lo' := [(4, (2, ee)), (3, (2, cc)), (0, (2, 3)), (1, (0, c)), (2, (0, e))]) (st' := [(0, 0)]) rfl ?_
          refine jiret hF hr (by decide +kernel) ?_
          exact lMR ⟨(HR.s hR (by omega)), by exact ⟨fun u => absurd ⟨by omega, by omega, by omega⟩ u, fun _ u => absurd (by assumption) u, fun _ _ => ⟨rfl, rfl⟩⟩⟩
        · refine jblk hF [(.iconst 1, 1)] (by decide +kernel) (pc' := 95) (lo' := [(4, (2, ee)), (3, (2, cc)), (0, (2, 3)), (1, (0, c)), (2, (0, e))]) (st' := [(0, 1)]) rfl ?_
          refine jiret hF hr (by decide +kernel) ?_
          exact lMR ⟨hR, by exact ⟨fun u => absurd ⟨by omega, by omega, by omega⟩ u, fun _ _ => ⟨rfl, rfl⟩, fun _ u => absurd u (by assumption)⟩⟩
      · refine jblk hF [(.iconst 2, 1)] (by decide +kernel) (pc' := 74) (lo' := [(4, (2, ee)), (3, (2, cc)), (0, (2, 3)), (1, (0, c)), (2, (0, e))]) (st' := [(0, 2)]) rfl ?_
        refine jiret hF hr (by decide +kernel) ?_
        exact lMR ⟨hR, by exact ⟨fun _ => ⟨rfl, rfl⟩, fun u => absurd u (by omega), fun u => absurd u (by omega)⟩⟩
    · refine jif_ne hF (off := 5) 36 (by decide +kernel) (by decide) (by decide) (fun h => absurd h (by decide)) (fun _ => ?_)
      refine jblk hF [(.iconst 2, 1)] (by decide +kernel) (pc' := 35) (lo' := [(0, (2, 3)), (1, (0, c)), (2, (0, e))]) (st' := [(0, 2)]) rfl ?_
      refine jiret hF hr (by decide +kernel) ?_
      exact lMR ⟨hR, by exact ⟨fun _ => ⟨rfl, rfl⟩, fun u => absurd u (by omega), fun u => absurd u (by omega)⟩⟩
  · refine jif_eq hF (off := 20) 34 (by decide +kernel) (by decide) (by decide) (fun _ => ?_) (fun h => absurd h (by decide))
    refine jblk hF [(.iconst 2, 1)] (by decide +kernel) (pc' := 35) (lo' := [(0, (2, 3)), (1, (0, c)), (2, (0, e))]) (st' := [(0, 2)]) rfl ?_
    refine jiret hF hr (by decide +kernel) ?_
    exact lMR ⟨hR, by exact ⟨fun _ => ⟨rfl, rfl⟩, fun u => absurd u (by omega), fun u => absurd u (by omega)⟩⟩
end
