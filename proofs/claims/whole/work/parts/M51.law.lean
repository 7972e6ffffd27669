/-! ===== the law's prefix: the two systems are made ===== -/
def q_Z0 : QS := ([], fun _ _ => 0, fun _ _ => 0, fun _ _ => 2000000)
def q_Z1 : QS := q_nw q_Z0 (.inl 10)
def q_Z2 : QS := fX10_init q_Z1 0
def q_Z3 : QS := q_nw q_Z2 (.inl 12)
def q_Sinit : QS := fX12_init q_Z3 102
theorem q_Z2_len : q_Z2.1.length = 102 := lenX10_init q_Z1 0
set_option maxRecDepth 20000 in
theorem kL_law {g : QG} {Q : Option Value → QS → Prop} {L : Nat} {xs : Nat → Int32} {r : Bool × QS} (hL : g.2.2.2.2.2.1 = L) (hxs : g.2.2.2.2.2.2 = xs) (h : fL_law_18 q_Sinit L xs 0 = some r) (hQ : Q (some (.int (q_b r.1))) r.2) : q_M g mL_law 16 183 332315 [.ref 1000300] q_Z0 Q := by
  show q_L g mL_law 16 183 332315 Q 0 0 0 [(0, .ref 1000300)] [] q_Z0
  refine q_new2 (id := 0) (ci := 10) rfl (by decide) lcL_7 q_is10 q_in10 (by decide) (by decide) (by decide) dL_law_0 ?_
  refine q_dup rfl dL_law_3 ?_
  refine q_callI (d := 15) (Mc := mX10_init) (kc := 101) (nc := 152708) [] okX10_init rfl (by decide) rfl lmL_9 inX10_init rfl (Nat.le_of_ble_eq_true rfl) (Nat.le_of_ble_eq_true rfl) (by decide) (by decide) dL_law_4 (q_L.deep (by decide) (kX10_init (Q := fun r S' => r = none ∧ S' = q_Z2) (S := q_Z1) (o := 0) rfl (by decide) ⟨rfl, rfl⟩)) (q_kV2 ?_)
  refine q_astore_n [(1, .ref 0), (0, .ref 1000300)] rfl (by decide) rfl dL_law_7 ?_
  refine q_new2 (id := 102) (ci := 12) q_Z2_len (by decide) lcL_10 q_is12 q_in12 (by decide) (by decide) (by rw [q_Z2_len]; decide) dL_law_8 ?_
  refine q_dup rfl dL_law_11 ?_
  refine q_callI (d := 15) (Mc := mX12_init) (kc := 80) (nc := 179548) [] okX12_init rfl (show 102 < q_Z3.1.length by rw [q_Z3, q_len_nw, q_Z2_len]; decide) rfl lmL_12 inX12_init rfl (Nat.le_of_ble_eq_true rfl) (Nat.le_of_ble_eq_true rfl) (by decide) (by decide) dL_law_12 (q_L.deep (by decide) (kX12_init (Q := fun r S' => r = none ∧ S' = q_Sinit) (S := q_Z3) (o := 102) (q_sh_new q_Z2_len) (by rw [q_Z3, q_len_nw, q_Z2_len]; decide) ⟨rfl, rfl⟩)) (q_kV2 ?_)
  refine q_astore_n [(2, .ref 102), (1, .ref 0), (0, .ref 1000300)] rfl (by decide) rfl dL_law_15 ?_
  refine q_iconst (v := (0 : Int32)) (by decide) dL_law_16 ?_
  refine q_istore_n [(3, .int 0), (2, .ref 102), (1, .ref 0), (0, .ref 1000300)] rfl (by decide) rfl dL_law_17 ?_
  refine q_sub [3, 2, 1, 0] rfl ?_
  exact kL_law_18 hL hxs h hQ
theorem q_Sinit_ok : q_okL q_Sinit 7 42 103 131 = true := by decide +kernel
