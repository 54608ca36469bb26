section
set_option maxHeartbeats 4000000 in
set_option maxRecDepth 100000 in
theorem c_Jxc12de_init_da8c8 {l : Launch} {g : GP} (hG : GH g) {kd : Int → Nat} {ln : Int → Int} {mem : Int → Int → Int} {sz : Nat} (a : Int) (hka : kd a = 1) (ha : 0 ≤ a) : MT l g yJxc12de_init_da8c8 cJxc12de_init_da8c8 1 none 2 0 0 [(2, a)] kd ln mem sz (pMV (fun mem' => (mem' = set2 mem a 0 0)) kd ln sz) := by
  refine MT_of hG (by decide +kernel) (Nat.le_of_ble_eq_true rfl) (fun z hF hr hn => ?_)
  refine jblk hF [(.aload_n 0, 1)] (by decide +kernel) (pc' := 1) (lo' := [(0, (2, a))]) (st' := [(2, a)]) rfl ?_
  refine jcallI hF (c_Jxa1e45_init_da8c8 hG a (by omega)) MW_Jxa1e45_init_da8c8 rfl (by omega) wd_308 wd_309 (by decide +kernel) [] rfl rfl (by decide) (Nat.le_of_ble_eq_true rfl) ⟨Nat.le_of_ble_eq_true rfl, Nat.le_of_ble_eq_true rfl⟩ (kMV (fun m_1 h_2 => ?_))
  subst h_2
  refine jblk hF [(.aload_n 0, 1), (.iconst 0, 1)] (by decide +kernel) (pc' := 6) (lo' := [(0, (2, a))]) (st' := [(0, 0), (2, a)]) rfl ?_
  refine jput hF 0 0 0 0 rfl (by decide) (by decide) rfl wd_316 (by decide +kernel) rfl (Or.inl rfl) (by first | assumption | omega) (fun h => by cases h) ?_
  refine jvret hF hr (by decide +kernel) ?_
  exact lMV (by rfl)
set_option maxHeartbeats 4000000 in
set_option maxRecDepth 100000 in
theorem c_Jx4a65c_init_da8c8 {l : Launch} {g : GP} (hG : GH g) {kd : Int → Nat} {ln : Int → Int} {mem : Int → Int → Int} {sz : Nat} (a : Int) (hEM : EMP g) (hka : kd a = 1) (ha : 0 ≤ a) : MT l g yJx4a65c_init_da8c8 cJx4a65c_init_da8c8 1 none 3 0 0 [(2, a)] kd ln mem sz (pMV (fun mem' => (mem' = set2 (set2 mem a 0 0) a 1 1)) kd ln sz) := by
  refine MT_of hG (by decide +kernel) (Nat.le_of_ble_eq_true rfl) (fun z hF hr hn => ?_)
  refine jblk hF [(.aload_n 0, 1)] (by decide +kernel) (pc' := 1) (lo' := [(0, (2, a))]) (st' := [(2, a)]) rfl ?_
  refine jcallI hF (c_Jxc12de_init_da8c8 hG a (by first | assumption | omega) (by omega)) MW_Jxc12de_init_da8c8 rfl (by omega) wd_305 wd_306 (by decide +kernel) [] rfl rfl (by decide) (Nat.le_of_ble_eq_true rfl) ⟨Nat.le_of_ble_eq_true rfl, Nat.le_of_ble_eq_true rfl⟩ (kMV (fun m_1 h_2 => ?_))
  subst h_2
  refine jblk hF [(.aload_n 0, 1)] (by decide +kernel) (pc' := 5) (lo' := [(0, (2, a))]) (st' := [(2, a)]) rfl ?_
  refine jgets hF 1 hEM wd_312 (by decide +kernel) ?_
  show J z g 1 _ _ _ 8 _ ((2, (1 : Int)) :: _) _ _ _ _
  refine jput hF 0 1 2 1 rfl (by decide) (by decide) rfl wd_314 (by decide +kernel) rfl (Or.inr (Or.inr (Or.inr (Or.inr ⟨_, rfl⟩)))) (by first | assumption | omega) (fun h => by cases h) ?_
  refine jvret hF hr (by decide +kernel) ?_
  exact lMV (by rfl)
end
