section
theorem c_X5_sumA {l : Launch} {g : GP} (hG : GH g) {kd : Int → Nat} {ln : Int → Int} {sz : Nat} (t r : Int) (T : Int → Int) (L : Int) : ∀ u : Nat, u ≤ 6 → ∀ (mem : Int → Int → Int) (d : Int), RDX kd ln t r T L mem → EB mem → (mem 7 2 = -1 → 0 ≤ mem 7 1 ∧ mem 7 1 ≤ L) → InI (mem 7 2) → (u : Int) = 6 - d → MT l g yX5_sum cX5_sum 5 (some .long) (3 * u + 5) 0 0 [(2, 7), (0, d)] kd ln mem sz (pMR 1 (fun v mem' => (COM mem mem' (sumP T L u) v)) kd ln sz) := by
  intro u
  induction u with
  | zero => exact fun h6 mem d h1 h2 h3 h4 h5 => c_X5_sumO hG d t r T L h1 0 h2 h3 h4 h5 (fun m2 d2 g1 g2 g3 g4 g5 => c_X5_termO hG d2 t r T L g1 0 g2 g3 g4 g5 (fun m3 d3 k1 k2 k3 k4 k5 => c_X5_atomO hG d3 t r T L k1 0 k2 k3 k4 k5 (fun u2 m4 d4 e => by omega) ⟨by omega, by omega⟩) ⟨by omega, by omega⟩) ⟨by omega, by omega⟩
  | succ u ih => exact fun h6 mem d h1 h2 h3 h4 h5 => c_X5_sumO hG d t r T L h1 (u + 1) h2 h3 h4 h5 (fun m2 d2 g1 g2 g3 g4 g5 => c_X5_termO hG d2 t r T L g1 (u + 1) g2 g3 g4 g5 (fun m3 d3 k1 k2 k3 k4 k5 => c_X5_atomO hG d3 t r T L k1 (u + 1) k2 k3 k4 k5 (fun u2 m4 d4 e q1 q2 q3 q4 q5 => by
      obtain rfl : u = u2 := by omega
      exact ih (by omega) m4 d4 q1 q2 q3 q4 q5) ⟨by omega, by omega⟩) ⟨by omega, by omega⟩) ⟨by omega, by omega⟩
end
