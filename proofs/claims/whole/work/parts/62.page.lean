section
theorem qV_bd {s a b x : Int} (hab : AB a b) (hx : 1 ≤ x ∧ x ≤ 9999) : 0 ≤ qV s a b x ∧ qV s a b x ≤ 1000000000000000 := by
  have hax := mul_bd (a := a) (b := x) (M := 99) (N := 9999) (by omega) (by omega)
  have hxx := mul_bd (a := x) (b := x) (M := 9999) (N := 9999) (by omega) (by omega)
  unfold qV
  split
  · have hr := isq_bd2 (v := 4000000000000 * (a * x + b)) (by omega)
    unfold rootQ
    generalize isq (4000000000000 * (a * x + b)) = w at *
    split <;> omega
  · have hb := below_bd (s := s) (b := b) (x := x) (by omega) hx
    have ht : 0 ≤ topV s a b x ∧ topV s a b x ≤ 400000000000000 := by
      unfold topV
      split <;> omega
    have hd := (ediv_bd (topV s a b x) (belowV s b x) hb.1).1 ht.1
    unfold divQ
    generalize topV s a b x / belowV s b x = w at *
    split <;> omega
theorem unit_bd {p : Int} (h : 0 ≤ p ∧ p ≤ 6) : 1 ≤ 4 * (10 : Int) ^ (6 - p).toNat ∧ 4 * (10 : Int) ^ (6 - p).toNat ≤ 4000000 := by
  have := ten_bd (p := 6 - p) (by omega)
  omega
end
