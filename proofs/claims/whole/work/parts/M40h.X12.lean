set_option maxRecDepth 20000 in
theorem sX12_joined_102 {S : QS} {g : QG} {Q : Option Value → QS → Prop} {q : Nat} {y2 : Int32} {y5 : Int32} {x : Int32} {z : (Int32) ⊕ (Int32)} (w : q_Wire S) (hq : q_qok q) (h : tX12_joined_102 S q y2 y5 x = some z) (hQ : (Sum.elim (fun r0 : Int32 => Q (some (.int r0)) S) (fun y : Int32 => q_L g mX12_joined 2 0 0 Q 0 0 102 [(0, .ref q), (2, .int y2), (5, .int y5), (6, .int y)] [] S) z)) : q_L g mX12_joined 2 0 0 Q 0 0 102 [(0, .ref q), (2, .int y2), (5, .int y5), (6, .int x)] [] S := by
  unfold tX12_joined_102 at h
  refine q_aload_n 0 rfl rfl dX12_joined_102 ?_
  refine q_iload_n 1 rfl rfl dX12_joined_103 ?_
  refine q_iload 2 rfl dX12_joined_104 ?_
  refine q_isub dX12_joined_106 ?_
  refine q_iload 3 rfl dX12_joined_107 ?_
  obtain ⟨r1, e2, h⟩ := q_bind h
  refine q_callS (d := 1) (Mc := mX12_isAtOrBelow) (kc := 0) (nc := 0) [.ref q, .int (y2 - y5), .int x] okX12_isAtOrBelow lmX12_263 inX12_isAtOrBelow rfl (Nat.le_of_ble_eq_true rfl) (Nat.le_of_ble_eq_true rfl) (Nat.le_refl _) (Nat.le_refl _) dX12_joined_109 (q_L.deep (by decide) (kX12_isAtOrBelow (Q := fun r S' => r = some (.int (q_b r1)) ∧ S' = S) w hq e2 ⟨rfl, rfl⟩)) (q_kI ?_)
  refine q_if_ne 127 (by decide) dX12_joined_112 (fun c => ?_) (fun c => ?_)
  · have c := q_b_n.mp c; rw [q_if1 c] at h
    refine q_iload 2 rfl dX12_joined_127 ?_
    refine q_iload 3 rfl dX12_joined_129 ?_
    refine q_iadd dX12_joined_131 ?_
    cases h
    exact q_iret rfl rfl dX12_joined_132 hQ
  · have c := q_b_0.mp c; rw [q_if0 c] at h
    refine q_aload_n 0 rfl rfl dX12_joined_115 ?_
    refine q_getR (q_shQ0 w hq) (by decide) (by decide) rfl lfX12_244 dX12_joined_116 (r := (q + 1)) (q_wrQ0_7 w hq) ?_
    refine q_iload 3 rfl dX12_joined_119 ?_
    obtain ⟨hg3, h⟩ := q_guard h
    refine q_iald (q_shQ1 w hq) (q_inb_in hg3) dX12_joined_121 ?_
    refine q_istore [(6, .int (S.2.1 (q + 1) x.toNatClampNeg)), (0, .ref q), (2, .int y2), (5, .int y5)] (by decide) rfl dX12_joined_122 ?_
    refine q_goto 102 (by decide) dX12_joined_124 ?_
    refine q_sub [1, 2, 3, 0] rfl ?_
    cases h
    exact hQ
theorem lX12_joined_102 {S : QS} {g : QG} {Q : Option Value → QS → Prop} {q : Nat} {y2 : Int32} {y5 : Int32} {r : Int32} (w : q_Wire S) (hq : q_qok q) (hQ : Q (some (.int r)) S) : ∀ (c : Nat) (x : Int32), q_it (tX12_joined_102 S q y2 y5) c x = some r → q_L g mX12_joined 2 0 0 Q 0 0 102 [(0, .ref q), (2, .int y2), (5, .int y5), (6, .int x)] [] S := by
  intro c
  induction c with
  | zero => intro x  h; cases h
  | succ c ih =>
    intro x  h
    simp only [q_it] at h
    cases hz : tX12_joined_102 S q y2 y5 x with
    | none => rw [hz] at h; cases h
    | some z =>
      rw [hz] at h
      refine sX12_joined_102 w hq hz ?_
      rcases z with z | y
      · cases h; exact hQ
      · exact ih y  h
theorem kX12_joined_102 {S : QS} {g : QG} {Q : Option Value → QS → Prop} {q : Nat} {y2 : Int32} {y5 : Int32} {y6 : Int32} {r : Int32} (w : q_Wire S) (hq : q_qok q) (h : fX12_joined_102 S q y2 y5 y6 = some r) (hQ : Q (some (.int r)) S) : q_L g mX12_joined 2 0 0 Q 0 0 102 [(0, .ref q), (2, .int y2), (5, .int y5), (6, .int y6)] [] S := by
  obtain ⟨c, hc⟩ := q_run_it h
  exact lX12_joined_102 w hq hQ c y6  hc
set_option maxRecDepth 20000 in
theorem kX12_joined {S : QS} {g : QG} {Q : Option Value → QS → Prop} {q : Nat} {x1 : Int32} {x2 : Int32} {r : Int32} (w : q_Wire S) (hq : q_qok q) (h : fX12_joined S q x1 x2 = some r) (hQ : Q (some (.int r)) S) : q_M g mX12_joined 2 0 0 [.ref q, .int x1, .int x2] S Q := by
  unfold fX12_joined at h
  show q_L g mX12_joined 2 0 0 Q 0 0 0 [(0, .ref q), (1, .int x1), (2, .int x2)] [] S
  refine q_aload_n 0 rfl rfl dX12_joined_0 ?_
  refine q_iload_n 1 rfl rfl dX12_joined_1 ?_
  refine q_iload_n 2 rfl rfl dX12_joined_2 ?_
  obtain ⟨r4, e5, h⟩ := q_bind h
  refine q_callS (d := 1) (Mc := mX12_isBelow) (kc := 0) (nc := 0) [.ref q, .int x1, .int x2] okX12_isBelow lmX12_436 inX12_isBelow rfl (Nat.le_of_ble_eq_true rfl) (Nat.le_of_ble_eq_true rfl) (Nat.le_refl _) (Nat.le_refl _) dX12_joined_3 (q_L.deep (by decide) (kX12_isBelow (Q := fun r S' => r = some (.int (q_b r4)) ∧ S' = S) w hq e5 ⟨rfl, rfl⟩)) (q_kI ?_)
  refine q_if_eq 11 (by decide) dX12_joined_6 (fun c => ?_) (fun c => ?_)
  · have c := q_b_0.mp c; rw [q_if0 c] at h
    refine q_aload_n 0 rfl rfl dX12_joined_11 ?_
    refine q_iload_n 2 rfl rfl dX12_joined_12 ?_
    refine q_iload_n 1 rfl rfl dX12_joined_13 ?_
    obtain ⟨r6, e7, h⟩ := q_bind h
    refine q_callS (d := 1) (Mc := mX12_isBelow) (kc := 0) (nc := 0) [.ref q, .int x2, .int x1] okX12_isBelow lmX12_436 inX12_isBelow rfl (Nat.le_of_ble_eq_true rfl) (Nat.le_of_ble_eq_true rfl) (Nat.le_refl _) (Nat.le_refl _) dX12_joined_14 (q_L.deep (by decide) (kX12_isBelow (Q := fun r S' => r = some (.int (q_b r6)) ∧ S' = S) w hq e7 ⟨rfl, rfl⟩)) (q_kI ?_)
    refine q_if_eq 22 (by decide) dX12_joined_17 (fun c => ?_) (fun c => ?_)
    · have c := q_b_0.mp c; rw [q_if0 c] at h
      refine q_iload_n 1 rfl rfl dX12_joined_22 ?_
      refine q_if_eq 30 (by decide) dX12_joined_23 (fun c => ?_) (fun c => ?_)
      · rw [if_pos c] at h
        refine q_iconst (v := (2 : Int32)) (by decide) dX12_joined_30 ?_
        obtain rfl := Option.some.inj h
        exact q_iret rfl rfl dX12_joined_31 hQ
      · rw [if_neg c] at h
        refine q_iload_n 2 rfl rfl dX12_joined_26 ?_
        refine q_if_ne 32 (by decide) dX12_joined_27 (fun c => ?_) (fun c => ?_)
        · rw [if_neg c] at h
          refine q_iload_n 1 rfl rfl dX12_joined_32 ?_
          obtain ⟨r8, e9, h⟩ := q_bind h
          refine q_callS (d := 1) (Mc := mX12_isClass) (kc := 0) (nc := 0) [.int x1] okX12_isClass lmX12_433 inX12_isClass rfl (Nat.le_of_ble_eq_true rfl) (Nat.le_of_ble_eq_true rfl) (Nat.le_refl _) (Nat.le_refl _) dX12_joined_33 (q_L.deep (by decide) (kX12_isClass (Q := fun r S' => r = some (.int (q_b r8)) ∧ S' = S) w e9 ⟨rfl, rfl⟩)) (q_kI ?_)
          obtain ⟨v12, hv, h⟩ := q_bind h
          have K1 : q_L g mX12_joined 2 0 0 Q 0 0 51 [(0, .ref q), (1, .int x1), (2, .int x2)] [.int (q_b v12)] S := by
            refine q_istore_n [(3, .int (q_b v12)), (0, .ref q), (1, .int x1), (2, .int x2)] rfl (by decide) rfl dX12_joined_51 ?_
            refine q_iload_n 2 rfl rfl dX12_joined_52 ?_
            refine q_bipush (v := (48 : Int32)) (by decide) dX12_joined_53 ?_
            obtain ⟨v13, hv, h⟩ := q_bind h
            have K2 : q_L g mX12_joined 2 0 0 Q 0 0 69 [(0, .ref q), (1, .int x1), (2, .int x2), (3, .int (q_b v12))] [.int (q_b v13)] S := by
              refine q_istore [(4, .int (q_b v13)), (0, .ref q), (1, .int x1), (2, .int x2), (3, .int (q_b v12))] (by decide) rfl dX12_joined_69 ?_
              refine q_iload_n 4 rfl rfl dX12_joined_71 ?_
              refine q_if_ne 83 (by decide) dX12_joined_72 (fun c => ?_) (fun c => ?_)
              · have c := q_b_n.mp c; rw [q_if1 c] at h
                refine q_iload_n 4 rfl rfl dX12_joined_83 ?_
                obtain ⟨v14, hv, h⟩ := q_bind h
                have K3 : q_L g mX12_joined 2 0 0 Q 0 0 94 [(0, .ref q), (1, .int x1), (2, .int x2)] [.int v14] S := by
                  refine q_istore [(5, .int v14), (0, .ref q), (1, .int x1), (2, .int x2)] (by decide) rfl dX12_joined_94 ?_
                  refine q_iload_n 2 rfl rfl dX12_joined_96 ?_
                  refine q_iload 0 rfl dX12_joined_97 ?_
                  refine q_isub dX12_joined_99 ?_
                  refine q_istore [(6, .int (x1 - v14)), (5, .int v14), (0, .ref q), (1, .int x1), (2, .int x2)] (by decide) rfl dX12_joined_100 ?_
                  refine q_sub [2, 4, 1, 0] rfl ?_
                  exact kX12_joined_102 w hq h hQ
                replace h := hv
                refine q_if_eq 92 (by decide) dX12_joined_84 (fun c => ?_) (fun c => ?_)
                · have c := q_b_0.mp c; rw [q_if0 c] at h
                  refine q_bipush (v := (48 : Int32)) (by decide) dX12_joined_92 ?_
                  obtain rfl := Option.some.inj h
                  refine q_sub [1, 2, 3] rfl ?_
                  exact K3
                · have c := q_b_n.mp c; rw [q_if1 c] at h
                  refine q_bipush (v := (8 : Int32)) (by decide) dX12_joined_87 ?_
                  refine q_goto 94 (by decide) dX12_joined_89 ?_
                  obtain rfl := Option.some.inj h
                  refine q_sub [1, 2, 3] rfl ?_
                  exact K3
              · have c := q_b_0.mp c; rw [q_if0 c] at h
                refine q_iload 0 rfl dX12_joined_75 ?_
                refine q_if_ne 83 (by decide) dX12_joined_77 (fun c => ?_) (fun c => ?_)
                · have c := q_b_n.mp c; rw [q_if1 c] at h
                  refine q_iload_n 4 rfl rfl dX12_joined_83 ?_
                  refine q_if_eq 92 (by decide) dX12_joined_84 (fun c => ?_) (fun c => ?_)
                  · have c := q_b_0.mp c; rw [q_if0 c] at h
                    refine q_bipush (v := (48 : Int32)) (by decide) dX12_joined_92 ?_
                    refine q_istore [(5, .int (48 : Int32)), (4, .int (q_b v13)), (0, .ref q), (1, .int x1), (2, .int x2), (3, .int (q_b v12))] (by decide) rfl dX12_joined_94 ?_
                    refine q_iload_n 3 rfl rfl dX12_joined_96 ?_
                    refine q_iload 0 rfl dX12_joined_97 ?_
                    refine q_isub dX12_joined_99 ?_
                    refine q_istore [(6, .int (x1 - (48 : Int32))), (5, .int (48 : Int32)), (4, .int (q_b v13)), (0, .ref q), (1, .int x1), (2, .int x2), (3, .int (q_b v12))] (by decide) rfl dX12_joined_100 ?_
                    refine q_sub [3, 5, 1, 0] rfl ?_
                    exact kX12_joined_102 w hq h hQ
                  · have c := q_b_n.mp c; rw [q_if1 c] at h
                    refine q_bipush (v := (8 : Int32)) (by decide) dX12_joined_87 ?_
                    refine q_goto 94 (by decide) dX12_joined_89 ?_
                    refine q_istore [(5, .int (8 : Int32)), (4, .int (q_b v13)), (0, .ref q), (1, .int x1), (2, .int x2), (3, .int (q_b v12))] (by decide) rfl dX12_joined_94 ?_
                    refine q_iload_n 3 rfl rfl dX12_joined_96 ?_
                    refine q_iload 0 rfl dX12_joined_97 ?_
                    refine q_isub dX12_joined_99 ?_
                    refine q_istore [(6, .int (x1 - (8 : Int32))), (5, .int (8 : Int32)), (4, .int (q_b v13)), (0, .ref q), (1, .int x1), (2, .int x2), (3, .int (q_b v12))] (by decide) rfl dX12_joined_100 ?_
                    refine q_sub [3, 5, 1, 0] rfl ?_
                    exact kX12_joined_102 w hq h hQ
                · have c := q_b_0.mp c; rw [q_if0 c] at h
                  refine q_bipush (v := (8 : Int32)) (by decide) dX12_joined_80 ?_
                  obtain rfl := Option.some.inj h
                  exact q_iret rfl rfl dX12_joined_82 hQ
            replace h := hv
            refine q_icmp_lt 68 (by decide) dX12_joined_55 (fun c => ?_) (fun c => ?_)
            · rw [if_pos c] at h
              refine q_iconst (v := (0 : Int32)) (by decide) dX12_joined_68 ?_
              obtain rfl := Option.some.inj h
              refine q_sub [1, 2, 3, 0] rfl ?_
              exact K2
            · rw [if_neg c] at h
              refine q_iload_n 3 rfl rfl dX12_joined_58 ?_
              refine q_bipush (v := (48 : Int32)) (by decide) dX12_joined_59 ?_
              refine q_icmp_lt 68 (by decide) dX12_joined_61 (fun c => ?_) (fun c => ?_)
              · rw [if_pos c] at h
                refine q_iconst (v := (0 : Int32)) (by decide) dX12_joined_68 ?_
                obtain rfl := Option.some.inj h
                refine q_sub [1, 2, 3, 0] rfl ?_
                exact K2
              · rw [if_neg c] at h
                refine q_iconst (v := (1 : Int32)) (by decide) dX12_joined_64 ?_
                refine q_goto 69 (by decide) dX12_joined_65 ?_
                obtain rfl := Option.some.inj h
                refine q_sub [1, 2, 3, 0] rfl ?_
                exact K2
          replace h := hv
          refine q_if_eq 50 (by decide) dX12_joined_36 (fun c => ?_) (fun c => ?_)
          · have c := q_b_0.mp c; rw [q_if0 c] at h
            refine q_iconst (v := (0 : Int32)) (by decide) dX12_joined_50 ?_
            obtain rfl := Option.some.inj h
            refine q_sub [0, 1, 2] rfl ?_
            exact K1
          · have c := q_b_n.mp c; rw [q_if1 c] at h
            refine q_iload_n 2 rfl rfl dX12_joined_39 ?_
            obtain ⟨r10, e11, h⟩ := q_bind h
            refine q_callS (d := 1) (Mc := mX12_isClass) (kc := 0) (nc := 0) [.int x2] okX12_isClass lmX12_433 inX12_isClass rfl (Nat.le_of_ble_eq_true rfl) (Nat.le_of_ble_eq_true rfl) (Nat.le_refl _) (Nat.le_refl _) dX12_joined_40 (q_L.deep (by decide) (kX12_isClass (Q := fun r S' => r = some (.int (q_b r10)) ∧ S' = S) w e11 ⟨rfl, rfl⟩)) (q_kI ?_)
            refine q_if_eq 50 (by decide) dX12_joined_43 (fun c => ?_) (fun c => ?_)
            · have c := q_b_0.mp c; rw [q_if0 c] at h
              refine q_iconst (v := (0 : Int32)) (by decide) dX12_joined_50 ?_
              obtain rfl := Option.some.inj h
              refine q_sub [0, 1, 2] rfl ?_
              exact K1
            · have c := q_b_n.mp c; rw [q_if1 c] at h
              refine q_iconst (v := (1 : Int32)) (by decide) dX12_joined_46 ?_
              refine q_goto 51 (by decide) dX12_joined_47 ?_
              obtain rfl := Option.some.inj h
              refine q_sub [0, 1, 2] rfl ?_
              exact K1
        · rw [if_pos c] at h
          refine q_iconst (v := (2 : Int32)) (by decide) dX12_joined_30 ?_
          obtain rfl := Option.some.inj h
          exact q_iret rfl rfl dX12_joined_31 hQ
    · have c := q_b_n.mp c; rw [q_if1 c] at h
      refine q_iload_n 1 rfl rfl dX12_joined_20 ?_
      obtain rfl := Option.some.inj h
      exact q_iret rfl rfl dX12_joined_21 hQ
  · have c := q_b_n.mp c; rw [q_if1 c] at h
    refine q_iload_n 2 rfl rfl dX12_joined_9 ?_
    obtain rfl := Option.some.inj h
    exact q_iret rfl rfl dX12_joined_10 hQ
set_option maxRecDepth 20000 in
theorem sX12_typesAt_2 {g : QG} {Q : Option Value → QS → Prop} {q : Nat} {y2 : Int32} {x : Int32 × QS} {z : (QS) ⊕ (Int32 × QS)} (w : q_Wire x.2) (hq : q_qok q) (h : tX12_typesAt_2 q y2 x = some z) (hQ : (Sum.elim (fun r0 : QS => Q none r0) (fun y : Int32 × QS => q_L g mX12_typesAt 0 0 0 Q 0 0 2 [(0, .ref 102), (1, .ref q), (2, .int y2), (3, .int y.1)] [] y.2) z)) : q_L g mX12_typesAt 0 0 0 Q 0 0 2 [(0, .ref 102), (1, .ref q), (2, .int y2), (3, .int x.1)] [] x.2 := by
  unfold tX12_typesAt_2 at h
  refine q_iload_n 3 rfl rfl dX12_typesAt_2 ?_
  refine q_bipush (v := (20 : Int32)) (by decide) dX12_typesAt_3 ?_
  refine q_icmp_ge 31 (by decide) dX12_typesAt_5 (fun c => ?_) (fun c => ?_)
  · rw [if_pos c] at h
    refine q_aload_n 0 rfl rfl dX12_typesAt_31 ?_
    refine q_bipush (v := (12 : Int32)) (by decide) dX12_typesAt_32 ?_
    refine q_aload_n 1 rfl rfl dX12_typesAt_34 ?_
    refine q_getR (q_shQ0 w hq) (by decide) (by decide) rfl lfX12_424 dX12_typesAt_35 (r := (q + 19)) (q_wrQ0_25 w hq) ?_
    refine q_iload_n 2 rfl rfl dX12_typesAt_38 ?_
    obtain ⟨hg1, h⟩ := q_guard h
    refine q_iald (q_shQ19 w hq) (q_inb_in hg1) dX12_typesAt_39 ?_
    refine q_iadd dX12_typesAt_40 ?_
    refine q_putI (q_sh102 w) (by decide) (by decide) rfl rfl ⟨rfl, rfl⟩ lfX12_451 dX12_typesAt_41 ?_
    obtain ⟨S2, e3, h⟩ := q_bindS h
    refine q_st e3 ?_
    have fx4 : q_Fx x.2 S2 := e3 ▸ q_Fx.sI (q_Fx.rf x.2)
    cases h
    exact q_vret rfl dX12_typesAt_44 hQ
  · rw [if_neg c] at h
    refine q_aload_n 0 rfl rfl dX12_typesAt_8 ?_
    refine q_getR (q_sh102 w) (by decide) (by decide) rfl lfX12_61 dX12_typesAt_9 (r := 171) (q_wr102_22 w) ?_
    refine q_iload_n 3 rfl rfl dX12_typesAt_12 ?_
    refine q_aload_n 1 rfl rfl dX12_typesAt_13 ?_
    refine q_getR (q_shQ0 w hq) (by decide) (by decide) rfl lfX12_442 dX12_typesAt_14 (r := (q + 26)) (q_wrQ0_32 w hq) ?_
    refine q_iload_n 2 rfl rfl dX12_typesAt_17 ?_
    refine q_bipush (v := (20 : Int32)) (by decide) dX12_typesAt_18 ?_
    refine q_imul dX12_typesAt_20 ?_
    refine q_iload_n 3 rfl rfl dX12_typesAt_21 ?_
    refine q_iadd dX12_typesAt_22 ?_
    obtain ⟨hg5, h⟩ := q_guard h
    refine q_iald (q_shQ26 w hq) (q_inb_in hg5) dX12_typesAt_23 ?_
    obtain ⟨hg6, h⟩ := q_guard h
    refine q_iast (q_sh171 w) (q_inb_in hg6) dX12_typesAt_24 ?_
    obtain ⟨S7, e8, h⟩ := q_bindS h
    refine q_st e8 ?_
    have fx9 : q_Fx x.2 S7 := e8 ▸ q_Fx.sI (q_Fx.rf x.2)
    refine q_iinc (v := (x.1 + (1 : Int32))) 3 [(3, .int (x.1 + (1 : Int32))), (0, .ref 102), (1, .ref q), (2, .int y2)] (by decide) rfl (congrArg (fun t => x.1 + t) (by decide)) rfl dX12_typesAt_25 ?_
    refine q_goto 2 (by decide) dX12_typesAt_28 ?_
    refine q_sub [1, 2, 3, 0] rfl ?_
    cases h
    exact hQ
theorem lX12_typesAt_2 {g : QG} {Q : Option Value → QS → Prop} {q : Nat} {y2 : Int32} {r : QS} (hq : q_qok q) (hQ : Q none r) : ∀ (c : Nat) (x : Int32 × QS), q_Wire x.2 → q_it (tX12_typesAt_2 q y2) c x = some r → q_L g mX12_typesAt 0 0 0 Q 0 0 2 [(0, .ref 102), (1, .ref q), (2, .int y2), (3, .int x.1)] [] x.2 := by
  intro c
  induction c with
  | zero => intro x w h; cases h
  | succ c ih =>
    intro x w h
    simp only [q_it] at h
    cases hz : tX12_typesAt_2 q y2 x with
    | none => rw [hz] at h; cases h
    | some z =>
      rw [hz] at h
      refine sX12_typesAt_2 w hq hz ?_
      rcases z with z | y
      · cases h; exact hQ
      · have fz := fxtX12_typesAt_2 hz; exact ih y (w.fx fz) h
theorem kX12_typesAt_2 {S : QS} {g : QG} {Q : Option Value → QS → Prop} {q : Nat} {y2 : Int32} {y3 : Int32} {r : QS} (w : q_Wire S) (hq : q_qok q) (h : fX12_typesAt_2 S q y2 y3 = some r) (hQ : Q none r) : q_L g mX12_typesAt 0 0 0 Q 0 0 2 [(0, .ref 102), (1, .ref q), (2, .int y2), (3, .int y3)] [] S := by
  obtain ⟨c, hc⟩ := q_run_it h
  exact lX12_typesAt_2 hq hQ c (y3, S) w hc
set_option maxRecDepth 20000 in
theorem kX12_typesAt {S : QS} {g : QG} {Q : Option Value → QS → Prop} {q : Nat} {x2 : Int32} {r : QS} (w : q_Wire S) (hq : q_qok q) (h : fX12_typesAt S q x2 = some r) (hQ : Q none r) : q_M g mX12_typesAt 0 0 0 [.ref 102, .ref q, .int x2] S Q := by
  unfold fX12_typesAt at h
  show q_L g mX12_typesAt 0 0 0 Q 0 0 0 [(0, .ref 102), (1, .ref q), (2, .int x2)] [] S
  refine q_iconst (v := (0 : Int32)) (by decide) dX12_typesAt_0 ?_
  refine q_istore_n [(3, .int (0 : Int32)), (0, .ref 102), (1, .ref q), (2, .int x2)] rfl (by decide) rfl dX12_typesAt_1 ?_
  refine q_sub [1, 2, 3, 0] rfl ?_
  exact kX12_typesAt_2 w hq h hQ
set_option maxRecDepth 20000 in
theorem sX12_typesTo_18 {g : QG} {Q : Option Value → QS → Prop} {q : Nat} {y2 : Int32} {x : Int32 × Int32 × QS} {z : (Bool × QS) ⊕ (Int32 × Int32 × QS)} (w : q_Wire x.2.2) (hq : q_qok q) (h : tX12_typesTo_18 q y2 x = some z) (hQ : (Sum.elim (fun r0 : Bool × QS => Q (some (.int (q_b r0.1))) r0.2) (fun y : Int32 × Int32 × QS => q_L g mX12_typesTo 3 0 0 Q 0 0 18 [(0, .ref 102), (1, .ref q), (2, .int y2), (3, .int y.1), (4, .int y.2.1)] [] y.2.2) z)) : q_L g mX12_typesTo 3 0 0 Q 0 0 18 [(0, .ref 102), (1, .ref q), (2, .int y2), (3, .int x.1), (4, .int x.2.1)] [] x.2.2 := by
  unfold tX12_typesTo_18 at h
  refine q_iload 4 rfl dX12_typesTo_18 ?_
  refine q_bipush (v := (12 : Int32)) (by decide) dX12_typesTo_20 ?_
  refine q_aload_n 1 rfl rfl dX12_typesTo_22 ?_
  refine q_getR (q_shQ0 w hq) (by decide) (by decide) rfl lfX12_424 dX12_typesTo_23 (r := (q + 19)) (q_wrQ0_25 w hq) ?_
  refine q_iload_n 2 rfl rfl dX12_typesTo_26 ?_
  obtain ⟨hg1, h⟩ := q_guard h
  refine q_iald (q_shQ19 w hq) (q_inb_in hg1) dX12_typesTo_27 ?_
  refine q_iadd dX12_typesTo_28 ?_
  refine q_icmp_ge 117 (by decide) dX12_typesTo_29 (fun c => ?_) (fun c => ?_)
  · rw [if_pos c] at h
    refine q_aload_n 1 rfl rfl dX12_typesTo_117 ?_
    refine q_getR (q_shQ0 w hq) (by decide) (by decide) rfl lfX12_439 dX12_typesTo_118 (r := (q + 27)) (q_wrQ0_33 w hq) ?_
    refine q_iload_n 2 rfl rfl dX12_typesTo_121 ?_
    refine q_iconst (v := (1 : Int32)) (by decide) dX12_typesTo_122 ?_
    obtain ⟨hg2, h⟩ := q_guard h
    refine q_zast (q_shQ27 w hq) (q_inb_in hg2) dX12_typesTo_123 ?_
    obtain ⟨S3, e4, h⟩ := q_bindS h
    refine q_st e4 ?_
    have fx5 : q_Fx x.2.2 S3 := e4 ▸ q_Fx.sI (q_Fx.rf x.2.2)
    refine q_iload_n 3 rfl rfl dX12_typesTo_124 ?_
    obtain ⟨hgb, h⟩ := q_guard h
    cases h
    exact q_iret rfl (q_bdec_n hgb) dX12_typesTo_125 (by rw [← q_bdec hgb]; exact hQ)
  · rw [if_neg c] at h
    refine q_iload_n 2 rfl rfl dX12_typesTo_32 ?_
    refine q_bipush (v := (20 : Int32)) (by decide) dX12_typesTo_33 ?_
    refine q_imul dX12_typesTo_35 ?_
    refine q_iload 4 rfl dX12_typesTo_36 ?_
    refine q_iadd dX12_typesTo_38 ?_
    refine q_istore [(5, .int ((y2 * (20 : Int32)) + x.2.1)), (0, .ref 102), (1, .ref q), (2, .int y2), (3, .int x.1), (4, .int x.2.1)] (by decide) rfl dX12_typesTo_39 ?_
    refine q_aload_n 2 rfl rfl dX12_typesTo_41 ?_
    refine q_getR (q_shQ0 w hq) (by decide) (by decide) rfl lfX12_439 dX12_typesTo_42 (r := (q + 27)) (q_wrQ0_33 w hq) ?_
    refine q_iload_n 3 rfl rfl dX12_typesTo_45 ?_
    obtain ⟨hg6, h⟩ := q_guard h
    refine q_zald (q_shQ27 w hq) (q_inb_in hg6) dX12_typesTo_46 ?_
    obtain ⟨v12, hv, h⟩ := q_bind h
    have K1 : q_L g mX12_typesTo 3 0 0 Q 0 0 78 [(0, .ref 102), (1, .ref q), (2, .int y2), (3, .int x.1), (4, .int x.2.1), (5, .int ((y2 * (20 : Int32)) + x.2.1))] [.int v12] x.2.2 := by
      refine q_istore [(6, .int v12), (0, .ref 102), (1, .ref q), (2, .int y2), (3, .int x.1), (4, .int x.2.1), (5, .int ((y2 * (20 : Int32)) + x.2.1))] (by decide) rfl dX12_typesTo_78 ?_
      refine q_iload_n 4 rfl rfl dX12_typesTo_80 ?_
      obtain ⟨v14, hv, h⟩ := q_bind h
      have K2 : q_L g mX12_typesTo 3 0 0 Q 0 0 101 [(0, .ref 102), (1, .ref q), (2, .int y2), (4, .int x.2.1), (5, .int ((y2 * (20 : Int32)) + x.2.1)), (6, .int v12)] [.int (q_b v14)] x.2.2 := by
        refine q_istore_n [(3, .int (q_b v14)), (0, .ref 102), (1, .ref q), (2, .int y2), (4, .int x.2.1), (5, .int ((y2 * (20 : Int32)) + x.2.1)), (6, .int v12)] rfl (by decide) rfl dX12_typesTo_101 ?_
        refine q_aload_n 2 rfl rfl dX12_typesTo_102 ?_
        refine q_getR (q_shQ0 w hq) (by decide) (by decide) rfl lfX12_442 dX12_typesTo_103 (r := (q + 26)) (q_wrQ0_32 w hq) ?_
        refine q_iload 5 rfl dX12_typesTo_106 ?_
        refine q_iload 6 rfl dX12_typesTo_108 ?_
        obtain ⟨hg15, h⟩ := q_guard h
        refine q_iast (q_shQ26 w hq) (q_inb_in hg15) dX12_typesTo_110 ?_
        obtain ⟨S16, e17, h⟩ := q_bindS h
        refine q_st e17 ?_
        have fx18 : q_Fx x.2.2 S16 := e17 ▸ q_Fx.sI (q_Fx.rf x.2.2)
        refine q_iinc (v := (x.2.1 + (1 : Int32))) 4 [(4, .int (x.2.1 + (1 : Int32))), (3, .int (q_b v14)), (0, .ref 102), (1, .ref q), (2, .int y2), (5, .int ((y2 * (20 : Int32)) + x.2.1)), (6, .int v12)] (by decide) rfl (congrArg (fun t => x.2.1 + t) (by decide)) rfl dX12_typesTo_111 ?_
        refine q_goto 18 (by decide) dX12_typesTo_114 ?_
        refine q_sub [2, 3, 4, 1, 0] rfl ?_
        cases h
        exact hQ
      replace h := hv
      refine q_if_ne 96 (by decide) dX12_typesTo_81 (fun c => ?_) (fun c => ?_)
      · rw [if_neg c] at h
        refine q_iconst (v := (1 : Int32)) (by decide) dX12_typesTo_96 ?_
        refine q_goto 101 (by decide) dX12_typesTo_97 ?_
        obtain rfl := Option.some.inj h
        refine q_sub [1, 2, 3, 5, 6, 0] rfl ?_
        exact K2
      · rw [if_pos c] at h
        refine q_iload 0 rfl dX12_typesTo_84 ?_
        refine q_aload_n 2 rfl rfl dX12_typesTo_86 ?_
        refine q_getR (q_shQ0 w hq) (by decide) (by decide) rfl lfX12_442 dX12_typesTo_87 (r := (q + 26)) (q_wrQ0_32 w hq) ?_
        refine q_iload 6 rfl dX12_typesTo_90 ?_
        obtain ⟨hg13, h⟩ := q_guard h
        refine q_iald (q_shQ26 w hq) (q_inb_in hg13) dX12_typesTo_92 ?_
        refine q_icmp_eq 100 (by decide) dX12_typesTo_93 (fun c => ?_) (fun c => ?_)
        · rw [if_pos c] at h
          refine q_iconst (v := (0 : Int32)) (by decide) dX12_typesTo_100 ?_
          obtain rfl := Option.some.inj h
          refine q_sub [1, 2, 3, 5, 6, 0] rfl ?_
          exact K2
        · rw [if_neg c] at h
          refine q_iconst (v := (1 : Int32)) (by decide) dX12_typesTo_96 ?_
          refine q_goto 101 (by decide) dX12_typesTo_97 ?_
          obtain rfl := Option.some.inj h
          refine q_sub [1, 2, 3, 5, 6, 0] rfl ?_
          exact K2
    replace h := hv
    refine q_if_eq 71 (by decide) dX12_typesTo_47 (fun c => ?_) (fun c => ?_)
    · rw [if_pos c] at h
      refine q_aload_n 1 rfl rfl dX12_typesTo_71 ?_
      refine q_getR (q_sh102 w) (by decide) (by decide) rfl lfX12_61 dX12_typesTo_72 (r := 171) (q_wr102_22 w) ?_
      refine q_iload 5 rfl dX12_typesTo_75 ?_
      obtain ⟨hg7, h⟩ := q_guard h
      refine q_iald (q_sh171 w) (q_inb_in hg7) dX12_typesTo_77 ?_
      obtain rfl := Option.some.inj h
      refine q_sub [1, 2, 3, 4, 5, 0] rfl ?_
      exact K1
    · rw [if_neg c] at h
      refine q_aload_n 2 rfl rfl dX12_typesTo_50 ?_
      refine q_aload_n 2 rfl rfl dX12_typesTo_51 ?_
      refine q_getR (q_shQ0 w hq) (by decide) (by decide) rfl lfX12_442 dX12_typesTo_52 (r := (q + 26)) (q_wrQ0_32 w hq) ?_
      refine q_iload 0 rfl dX12_typesTo_55 ?_
      obtain ⟨hg8, h⟩ := q_guard h
      refine q_iald (q_shQ26 w hq) (q_inb_in hg8) dX12_typesTo_57 ?_
      refine q_aload_n 1 rfl rfl dX12_typesTo_58 ?_
      refine q_getR (q_sh102 w) (by decide) (by decide) rfl lfX12_61 dX12_typesTo_59 (r := 171) (q_wr102_22 w) ?_
      refine q_iload 5 rfl dX12_typesTo_62 ?_
      obtain ⟨hg9, h⟩ := q_guard h
      refine q_iald (q_sh171 w) (q_inb_in hg9) dX12_typesTo_64 ?_
      obtain ⟨r10, e11, h⟩ := q_bind h
      refine q_callS (d := 2) (Mc := mX12_joined) (kc := 0) (nc := 0) [.ref q, .int (x.2.2.2.1 (q + 26) ((y2 * (20 : Int32)) + x.2.1).toNatClampNeg), .int (x.2.2.2.1 171 x.2.1.toNatClampNeg)] okX12_joined lmX12_464 inX12_joined rfl (Nat.le_of_ble_eq_true rfl) (Nat.le_of_ble_eq_true rfl) (Nat.le_refl _) (Nat.le_refl _) dX12_typesTo_65 (q_L.deep (by decide) (kX12_joined (Q := fun r S' => r = some (.int r10) ∧ S' = x.2.2) w hq e11 ⟨rfl, rfl⟩)) (q_kI ?_)
      refine q_goto 78 (by decide) dX12_typesTo_68 ?_
      obtain rfl := Option.some.inj h
      refine q_sub [1, 2, 3, 4, 5, 0] rfl ?_
      exact K1
theorem lX12_typesTo_18 {g : QG} {Q : Option Value → QS → Prop} {q : Nat} {y2 : Int32} {r : Bool × QS} (hq : q_qok q) (hQ : Q (some (.int (q_b r.1))) r.2) : ∀ (c : Nat) (x : Int32 × Int32 × QS), q_Wire x.2.2 → q_it (tX12_typesTo_18 q y2) c x = some r → q_L g mX12_typesTo 3 0 0 Q 0 0 18 [(0, .ref 102), (1, .ref q), (2, .int y2), (3, .int x.1), (4, .int x.2.1)] [] x.2.2 := by
  intro c
  induction c with
  | zero => intro x w h; cases h
  | succ c ih =>
    intro x w h
    simp only [q_it] at h
    cases hz : tX12_typesTo_18 q y2 x with
    | none => rw [hz] at h; cases h
    | some z =>
      rw [hz] at h
      refine sX12_typesTo_18 w hq hz ?_
      rcases z with z | y
      · cases h; exact hQ
      · have fz := fxtX12_typesTo_18 hz; exact ih y (w.fx fz) h
theorem kX12_typesTo_18 {S : QS} {g : QG} {Q : Option Value → QS → Prop} {q : Nat} {y2 : Int32} {y3 : Int32} {y4 : Int32} {r : Bool × QS} (w : q_Wire S) (hq : q_qok q) (h : fX12_typesTo_18 S q y2 y3 y4 = some r) (hQ : Q (some (.int (q_b r.1))) r.2) : q_L g mX12_typesTo 3 0 0 Q 0 0 18 [(0, .ref 102), (1, .ref q), (2, .int y2), (3, .int y3), (4, .int y4)] [] S := by
  obtain ⟨c, hc⟩ := q_run_it h
  exact lX12_typesTo_18 hq hQ c (y3, y4, S) w hc
set_option maxRecDepth 20000 in
theorem kX12_typesTo {S : QS} {g : QG} {Q : Option Value → QS → Prop} {q : Nat} {x2 : Int32} {r : Bool × QS} (w : q_Wire S) (hq : q_qok q) (h : fX12_typesTo S q x2 = some r) (hQ : Q (some (.int (q_b r.1))) r.2) : q_M g mX12_typesTo 3 0 0 [.ref 102, .ref q, .int x2] S Q := by
  unfold fX12_typesTo at h
  show q_L g mX12_typesTo 3 0 0 Q 0 0 0 [(0, .ref 102), (1, .ref q), (2, .int x2)] [] S
  refine q_aload_n 1 rfl rfl dX12_typesTo_0 ?_
  refine q_getR (q_shQ0 w hq) (by decide) (by decide) rfl lfX12_439 dX12_typesTo_1 (r := (q + 27)) (q_wrQ0_33 w hq) ?_
  refine q_iload_n 2 rfl rfl dX12_typesTo_4 ?_
  obtain ⟨hg19, h⟩ := q_guard h
  refine q_zald (q_shQ27 w hq) (q_inb_in hg19) dX12_typesTo_5 ?_
  refine q_if_ne 13 (by decide) dX12_typesTo_6 (fun c => ?_) (fun c => ?_)
  · rw [if_neg c] at h
    refine q_iconst (v := (0 : Int32)) (by decide) dX12_typesTo_13 ?_
    refine q_istore_n [(3, .int (0 : Int32)), (0, .ref 102), (1, .ref q), (2, .int x2)] rfl (by decide) rfl dX12_typesTo_14 ?_
    refine q_iconst (v := (0 : Int32)) (by decide) dX12_typesTo_15 ?_
    refine q_istore [(4, .int (0 : Int32)), (3, .int (0 : Int32)), (0, .ref 102), (1, .ref q), (2, .int x2)] (by decide) rfl dX12_typesTo_16 ?_
    refine q_sub [2, 3, 4, 1, 0] rfl ?_
    exact kX12_typesTo_18 w hq h hQ
  · rw [if_pos c] at h
    refine q_iconst (v := (1 : Int32)) (by decide) dX12_typesTo_9 ?_
    refine q_goto 14 (by decide) dX12_typesTo_10 ?_
    refine q_istore_n [(3, .int (1 : Int32)), (0, .ref 102), (1, .ref q), (2, .int x2)] rfl (by decide) rfl dX12_typesTo_14 ?_
    refine q_iconst (v := (0 : Int32)) (by decide) dX12_typesTo_15 ?_
    refine q_istore [(4, .int (0 : Int32)), (3, .int (1 : Int32)), (0, .ref 102), (1, .ref q), (2, .int x2)] (by decide) rfl dX12_typesTo_16 ?_
    refine q_sub [2, 3, 4, 1, 0] rfl ?_
    exact kX12_typesTo_18 w hq h hQ
set_option maxRecDepth 20000 in
theorem kX12_leave {S : QS} {g : QG} {Q : Option Value → QS → Prop}  {x1 : Int32} {r : QS} (w : q_Wire S) (h : fX12_leave S x1 = some r) (hQ : Q none r) : q_M g mX12_leave 0 0 0 [.ref 102, .int x1] S Q := by
  unfold fX12_leave at h
  show q_L g mX12_leave 0 0 0 Q 0 0 0 [(0, .ref 102), (1, .int x1)] [] S
  refine q_aload_n 0 rfl rfl dX12_leave_0 ?_
  refine q_getR (q_sh102 w) (by decide) (by decide) rfl lfX12_61 dX12_leave_1 (r := 171) (q_wr102_22 w) ?_
  refine q_aload_n 0 rfl rfl dX12_leave_4 ?_
  refine q_getI (q_sh102 w) (by decide) (by decide) rfl lfX12_451 dX12_leave_5 ?_
  refine q_iload_n 1 rfl rfl dX12_leave_8 ?_
  obtain ⟨hg1, h⟩ := q_guard h
  refine q_iast (q_sh171 w) (q_inb_in hg1) dX12_leave_9 ?_
  obtain ⟨S2, e3, h⟩ := q_bindS h
  refine q_st e3 ?_
  have fx4 : q_Fx S S2 := e3 ▸ q_Fx.sI (q_Fx.rf S)
  refine q_aload_n 0 rfl rfl dX12_leave_10 ?_
  refine q_dup rfl dX12_leave_11 ?_
  refine q_getI (q_sh102 (w.fx fx4)) (by decide) (by decide) rfl lfX12_451 dX12_leave_12 ?_
  refine q_iconst (v := (1 : Int32)) (by decide) dX12_leave_15 ?_
  refine q_iadd dX12_leave_16 ?_
  refine q_putI (q_sh102 (w.fx fx4)) (by decide) (by decide) rfl rfl ⟨rfl, rfl⟩ lfX12_451 dX12_leave_17 ?_
  obtain ⟨S5, e6, h⟩ := q_bindS h
  refine q_st e6 ?_
  have fx7 : q_Fx S S5 := e6 ▸ q_Fx.sI (fx4)
  obtain rfl := Option.some.inj h
  exact q_vret rfl dX12_leave_20 hQ
set_option maxRecDepth 20000 in
theorem kX12_elementOf {S : QS} {g : QG} {Q : Option Value → QS → Prop}  {x0 : Int32} {r : Int32} (w : q_Wire S) (h : fX12_elementOf S x0 = some r) (hQ : Q (some (.int r)) S) : q_M g mX12_elementOf 0 0 0 [.int x0] S Q := by
  unfold fX12_elementOf at h
  show q_L g mX12_elementOf 0 0 0 Q 0 0 0 [(0, .int x0)] [] S
  refine q_iload_n 0 rfl rfl dX12_elementOf_0 ?_
  refine q_bipush (v := (40 : Int32)) (by decide) dX12_elementOf_1 ?_
  refine q_icmp_ne 10 (by decide) dX12_elementOf_3 (fun c => ?_) (fun c => ?_)
  · rw [if_neg c] at h
    refine q_iload_n 0 rfl rfl dX12_elementOf_10 ?_
    refine q_bipush (v := (48 : Int32)) (by decide) dX12_elementOf_11 ?_
    refine q_icmp_lt 26 (by decide) dX12_elementOf_13 (fun c => ?_) (fun c => ?_)
    · rw [if_pos c] at h
      refine q_iconst (v := (2 : Int32)) (by decide) dX12_elementOf_26 ?_
      obtain rfl := Option.some.inj h
      exact q_iret rfl rfl dX12_elementOf_27 hQ
    · rw [if_neg c] at h
      refine q_iload_n 0 rfl rfl dX12_elementOf_16 ?_
      refine q_bipush (v := (48 : Int32)) (by decide) dX12_elementOf_17 ?_
      refine q_isub dX12_elementOf_19 ?_
      refine q_bipush (v := (8 : Int32)) (by decide) dX12_elementOf_20 ?_
      refine q_iadd dX12_elementOf_22 ?_
      refine q_goto 27 (by decide) dX12_elementOf_23 ?_
      obtain rfl := Option.some.inj h
      exact q_iret rfl rfl dX12_elementOf_27 hQ
  · rw [if_pos c] at h
    refine q_iconst (v := (0 : Int32)) (by decide) dX12_elementOf_6 ?_
    refine q_goto 27 (by decide) dX12_elementOf_7 ?_
    obtain rfl := Option.some.inj h
    exact q_iret rfl rfl dX12_elementOf_27 hQ
set_option maxRecDepth 20000 in
theorem kX12_typesBehind {S : QS} {g : QG} {Q : Option Value → QS → Prop} {q : Nat} {x2 : Int32} {r : QS} (w : q_Wire S) (hq : q_qok q) (h : fX12_typesBehind S q x2 = some r) (hQ : Q none r) : q_M g mX12_typesBehind 1 0 0 [.ref 102, .ref q, .int x2] S Q := by
  unfold fX12_typesBehind at h
  show q_L g mX12_typesBehind 1 0 0 Q 0 0 0 [(0, .ref 102), (1, .ref q), (2, .int x2)] [] S
  refine q_aload_n 1 rfl rfl dX12_typesBehind_0 ?_
  refine q_getR (q_shQ0 w hq) (by decide) (by decide) rfl lfX12_353 dX12_typesBehind_1 (r := (q + 15)) (q_wrQ0_21 w hq) ?_
  refine q_iload_n 2 rfl rfl dX12_typesBehind_4 ?_
  obtain ⟨hg1, h⟩ := q_guard h
  refine q_iald (q_shQ15 w hq) (q_inb_in hg1) dX12_typesBehind_5 ?_
  refine q_istore_n [(3, .int (S.2.1 (q + 15) x2.toNatClampNeg)), (0, .ref 102), (1, .ref q), (2, .int x2)] rfl (by decide) rfl dX12_typesBehind_6 ?_
  refine q_aload_n 2 rfl rfl dX12_typesBehind_7 ?_
  refine q_getR (q_shQ0 w hq) (by decide) (by decide) rfl lfX12_376 dX12_typesBehind_8 (r := (q + 16)) (q_wrQ0_22 w hq) ?_
  refine q_iload_n 3 rfl rfl dX12_typesBehind_11 ?_
  obtain ⟨hg2, h⟩ := q_guard h
  refine q_iald (q_shQ16 w hq) (q_inb_in hg2) dX12_typesBehind_12 ?_
  refine q_istore [(4, .int (S.2.1 (q + 16) x2.toNatClampNeg)), (3, .int (S.2.1 (q + 15) x2.toNatClampNeg)), (0, .ref 102), (1, .ref q), (2, .int x2)] (by decide) rfl dX12_typesBehind_13 ?_
  refine q_aload_n 2 rfl rfl dX12_typesBehind_15 ?_
  refine q_getI (q_sh102 w) (by decide) (by decide) rfl lfX12_451 dX12_typesBehind_16 ?_
  refine q_bipush (v := (12 : Int32)) (by decide) dX12_typesBehind_19 ?_
  obtain ⟨v4, hv, h⟩ := q_bind h
  have K1 : q_L g mX12_typesBehind 1 0 0 Q 0 0 39 [(0, .ref 102), (1, .ref q), (2, .int x2), (3, .int (S.2.1 (q + 15) x2.toNatClampNeg)), (4, .int (S.2.1 (q + 16) x2.toNatClampNeg))] [.int v4] S := by
    refine q_istore [(5, .int v4), (0, .ref 102), (1, .ref q), (2, .int x2), (3, .int (S.2.1 (q + 15) x2.toNatClampNeg)), (4, .int (S.2.1 (q + 16) x2.toNatClampNeg))] (by decide) rfl dX12_typesBehind_39 ?_
    refine q_aload_n 1 rfl rfl dX12_typesBehind_41 ?_
    refine q_getI (q_sh102 w) (by decide) (by decide) rfl lfX12_451 dX12_typesBehind_42 ?_
    refine q_bipush (v := (13 : Int32)) (by decide) dX12_typesBehind_45 ?_
    obtain ⟨v6, hv, h⟩ := q_bind h
    have K2 : q_L g mX12_typesBehind 1 0 0 Q 0 0 65 [(0, .ref 102), (1, .ref q), (2, .int x2), (3, .int (S.2.1 (q + 15) x2.toNatClampNeg)), (4, .int (S.2.1 (q + 16) x2.toNatClampNeg)), (5, .int v4)] [.int v6] S := by
      refine q_istore [(6, .int v6), (0, .ref 102), (1, .ref q), (2, .int x2), (3, .int (S.2.1 (q + 15) x2.toNatClampNeg)), (4, .int (S.2.1 (q + 16) x2.toNatClampNeg)), (5, .int v4)] (by decide) rfl dX12_typesBehind_65 ?_
      refine q_aload_n 1 rfl rfl dX12_typesBehind_67 ?_
      refine q_dup rfl dX12_typesBehind_68 ?_
      refine q_getI (q_sh102 w) (by decide) (by decide) rfl lfX12_451 dX12_typesBehind_69 ?_
      refine q_aload_n 2 rfl rfl dX12_typesBehind_72 ?_
      refine q_iload_n 3 rfl rfl dX12_typesBehind_73 ?_
      obtain ⟨r7, e8, h⟩ := q_bind h
      refine q_callS (d := 0) (Mc := mX12_howMany) (kc := 0) (nc := 0) [.ref q, .int x2] okX12_howMany lmX12_427 inX12_howMany rfl (Nat.le_of_ble_eq_true rfl) (Nat.le_of_ble_eq_true rfl) (Nat.le_refl _) (Nat.le_refl _) dX12_typesBehind_74 (q_L.deep (by decide) (kX12_howMany (Q := fun r S' => r = some (.int r7) ∧ S' = S) w hq e8 ⟨rfl, rfl⟩)) (q_kI ?_)
      refine q_isub dX12_typesBehind_77 ?_
      refine q_putI (q_sh102 w) (by decide) (by decide) rfl rfl ⟨rfl, rfl⟩ lfX12_451 dX12_typesBehind_78 ?_
      obtain ⟨S9, e10, h⟩ := q_bindS h
      refine q_st e10 ?_
      have fx11 : q_Fx S S9 := e10 ▸ q_Fx.sI (q_Fx.rf S)
      refine q_iload_n 4 rfl rfl dX12_typesBehind_81 ?_
      by_cases c12 : (S.2.1 (q + 15) x2.toNatClampNeg) = (1 : Int32)
      · rw [if_pos c12] at h
        refine q_tabIn (M := mX12_typesBehind) (pc := 82) (x := (S.2.1 (q + 15) x2.toNatClampNeg)) 256 (by rw [c12]; decide) (by rw [c12]; decide) (by rw [c12]; rfl) (by decide) dX12_typesBehind_82 ?_
        refine q_aload_n 1 rfl rfl dX12_typesBehind_256 ?_
        refine q_iconst (v := (1 : Int32)) (by decide) dX12_typesBehind_257 ?_
        obtain ⟨r13, e14, h⟩ := q_bind h
        refine q_callV (ci := 12) (d := 0) (Mc := mX12_leave) (kc := 0) (nc := 0) [.int (1 : Int32)] okX12_leave (q_sh102 (w.fx fx11)) (by decide) rfl lmX12_467 inX12_leave seX12_leave rfl (Nat.le_of_ble_eq_true rfl) (Nat.le_of_ble_eq_true rfl) (Nat.le_refl _) (Nat.le_refl _) dX12_typesBehind_258 (q_L.deep (by decide) (kX12_leave (Q := fun r S' => r = none ∧ S' = r13) (w.fx fx11) e14 ⟨rfl, rfl⟩)) (q_kV ?_)
        have fx15 : q_Fx S r13 := q_Fx.tr (fx11) (fxX12_leave e14)
        refine q_goto 408 (by decide) dX12_typesBehind_261 ?_
        obtain rfl := Option.some.inj h
        exact q_vret rfl dX12_typesBehind_408 hQ
      rw [if_neg c12] at h
      by_cases c16 : (S.2.1 (q + 15) x2.toNatClampNeg) = (2 : Int32)
      · rw [if_pos c16] at h
        refine q_tabIn (M := mX12_typesBehind) (pc := 82) (x := (S.2.1 (q + 15) x2.toNatClampNeg)) 264 (by rw [c16]; decide) (by rw [c16]; decide) (by rw [c16]; rfl) (by decide) dX12_typesBehind_82 ?_
        refine q_aload_n 1 rfl rfl dX12_typesBehind_264 ?_
        refine q_aload_n 1 rfl rfl dX12_typesBehind_265 ?_
        refine q_getR (q_sh102 (w.fx fx11)) (by decide) (by decide) rfl lfX12_61 dX12_typesBehind_266 (r := 171) (q_wr102_22 (w.fx fx11)) ?_
        refine q_iload 5 rfl dX12_typesBehind_269 ?_
        obtain ⟨hg17, h⟩ := q_guard h
        refine q_iald (q_sh171 (w.fx fx11)) (q_inb_in hg17) dX12_typesBehind_271 ?_
        obtain ⟨r18, e19, h⟩ := q_bind h
        refine q_callV (ci := 12) (d := 0) (Mc := mX12_leave) (kc := 0) (nc := 0) [.int (S9.2.1 171 (S.2.1 (q + 16) x2.toNatClampNeg).toNatClampNeg)] okX12_leave (q_sh102 (w.fx fx11)) (by decide) rfl lmX12_467 inX12_leave seX12_leave rfl (Nat.le_of_ble_eq_true rfl) (Nat.le_of_ble_eq_true rfl) (Nat.le_refl _) (Nat.le_refl _) dX12_typesBehind_272 (q_L.deep (by decide) (kX12_leave (Q := fun r S' => r = none ∧ S' = r18) (w.fx fx11) e19 ⟨rfl, rfl⟩)) (q_kV ?_)
        have fx20 : q_Fx S r18 := q_Fx.tr (fx11) (fxX12_leave e19)
        refine q_goto 408 (by decide) dX12_typesBehind_275 ?_
        obtain rfl := Option.some.inj h
        exact q_vret rfl dX12_typesBehind_408 hQ
      rw [if_neg c16] at h
      by_cases c21 : (S.2.1 (q + 15) x2.toNatClampNeg) = (3 : Int32)
      · rw [if_pos c21] at h
        refine q_tabIn (M := mX12_typesBehind) (pc := 82) (x := (S.2.1 (q + 15) x2.toNatClampNeg)) 278 (by rw [c21]; decide) (by rw [c21]; decide) (by rw [c21]; rfl) (by decide) dX12_typesBehind_82 ?_
        refine q_aload_n 1 rfl rfl dX12_typesBehind_278 ?_
        refine q_getR (q_sh102 (w.fx fx11)) (by decide) (by decide) rfl lfX12_61 dX12_typesBehind_279 (r := 171) (q_wr102_22 (w.fx fx11)) ?_
        refine q_iload 5 rfl dX12_typesBehind_282 ?_
        refine q_iload 6 rfl dX12_typesBehind_284 ?_
        obtain ⟨hg22, h⟩ := q_guard h
        refine q_iast (q_sh171 (w.fx fx11)) (q_inb_in hg22) dX12_typesBehind_286 ?_
        obtain ⟨S23, e24, h⟩ := q_bindS h
        refine q_st e24 ?_
        have fx25 : q_Fx S S23 := e24 ▸ q_Fx.sI (fx11)
        refine q_goto 408 (by decide) dX12_typesBehind_287 ?_
        obtain rfl := Option.some.inj h
        exact q_vret rfl dX12_typesBehind_408 hQ
      rw [if_neg c21] at h
      by_cases c26 : (S.2.1 (q + 15) x2.toNatClampNeg) = (5 : Int32)
      · rw [if_pos c26] at h
        refine q_tabIn (M := mX12_typesBehind) (pc := 82) (x := (S.2.1 (q + 15) x2.toNatClampNeg)) 290 (by rw [c26]; decide) (by rw [c26]; decide) (by rw [c26]; rfl) (by decide) dX12_typesBehind_82 ?_
        refine q_aload_n 1 rfl rfl dX12_typesBehind_290 ?_
        refine q_iload 6 rfl dX12_typesBehind_291 ?_
        obtain ⟨r27, e28, h⟩ := q_bind h
        refine q_callV (ci := 12) (d := 0) (Mc := mX12_leave) (kc := 0) (nc := 0) [.int v4] okX12_leave (q_sh102 (w.fx fx11)) (by decide) rfl lmX12_467 inX12_leave seX12_leave rfl (Nat.le_of_ble_eq_true rfl) (Nat.le_of_ble_eq_true rfl) (Nat.le_refl _) (Nat.le_refl _) dX12_typesBehind_293 (q_L.deep (by decide) (kX12_leave (Q := fun r S' => r = none ∧ S' = r27) (w.fx fx11) e28 ⟨rfl, rfl⟩)) (q_kV ?_)
        have fx29 : q_Fx S r27 := q_Fx.tr (fx11) (fxX12_leave e28)
        refine q_aload_n 1 rfl rfl dX12_typesBehind_296 ?_
        refine q_iload 6 rfl dX12_typesBehind_297 ?_
        obtain ⟨r30, e31, h⟩ := q_bind h
        refine q_callV (ci := 12) (d := 0) (Mc := mX12_leave) (kc := 0) (nc := 0) [.int v4] okX12_leave (q_sh102 (w.fx fx29)) (by decide) rfl lmX12_467 inX12_leave seX12_leave rfl (Nat.le_of_ble_eq_true rfl) (Nat.le_of_ble_eq_true rfl) (Nat.le_refl _) (Nat.le_refl _) dX12_typesBehind_299 (q_L.deep (by decide) (kX12_leave (Q := fun r S' => r = none ∧ S' = r30) (w.fx fx29) e31 ⟨rfl, rfl⟩)) (q_kV ?_)
        have fx32 : q_Fx S r30 := q_Fx.tr (fx29) (fxX12_leave e31)
        refine q_goto 408 (by decide) dX12_typesBehind_302 ?_
        obtain rfl := Option.some.inj h
        exact q_vret rfl dX12_typesBehind_408 hQ
      rw [if_neg c26] at h
      by_cases c33 : (S.2.1 (q + 15) x2.toNatClampNeg) = (7 : Int32)
      · rw [if_pos c33] at h
        refine q_tabIn (M := mX12_typesBehind) (pc := 82) (x := (S.2.1 (q + 15) x2.toNatClampNeg)) 305 (by rw [c33]; decide) (by rw [c33]; decide) (by rw [c33]; rfl) (by decide) dX12_typesBehind_82 ?_
        refine q_aload_n 1 rfl rfl dX12_typesBehind_305 ?_
        refine q_iload 6 rfl dX12_typesBehind_306 ?_
        obtain ⟨r34, e35, h⟩ := q_bind h
        refine q_callV (ci := 12) (d := 0) (Mc := mX12_leave) (kc := 0) (nc := 0) [.int v4] okX12_leave (q_sh102 (w.fx fx11)) (by decide) rfl lmX12_467 inX12_leave seX12_leave rfl (Nat.le_of_ble_eq_true rfl) (Nat.le_of_ble_eq_true rfl) (Nat.le_refl _) (Nat.le_refl _) dX12_typesBehind_308 (q_L.deep (by decide) (kX12_leave (Q := fun r S' => r = none ∧ S' = r34) (w.fx fx11) e35 ⟨rfl, rfl⟩)) (q_kV ?_)
        have fx36 : q_Fx S r34 := q_Fx.tr (fx11) (fxX12_leave e35)
        refine q_aload_n 1 rfl rfl dX12_typesBehind_311 ?_
        refine q_iload 0 rfl dX12_typesBehind_312 ?_
        obtain ⟨r37, e38, h⟩ := q_bind h
        refine q_callV (ci := 12) (d := 0) (Mc := mX12_leave) (kc := 0) (nc := 0) [.int v6] okX12_leave (q_sh102 (w.fx fx36)) (by decide) rfl lmX12_467 inX12_leave seX12_leave rfl (Nat.le_of_ble_eq_true rfl) (Nat.le_of_ble_eq_true rfl) (Nat.le_refl _) (Nat.le_refl _) dX12_typesBehind_314 (q_L.deep (by decide) (kX12_leave (Q := fun r S' => r = none ∧ S' = r37) (w.fx fx36) e38 ⟨rfl, rfl⟩)) (q_kV ?_)
        have fx39 : q_Fx S r37 := q_Fx.tr (fx36) (fxX12_leave e38)
        refine q_goto 408 (by decide) dX12_typesBehind_317 ?_
        obtain rfl := Option.some.inj h
        exact q_vret rfl dX12_typesBehind_408 hQ
      rw [if_neg c33] at h
      by_cases c40 : (S.2.1 (q + 15) x2.toNatClampNeg) = (30 : Int32) ∨ (S.2.1 (q + 15) x2.toNatClampNeg) = (31 : Int32)
      · rw [if_pos c40] at h
        have K : ∀ (hK : True), q_L g mX12_typesBehind 1 0 0 Q 0 0 320 [(6, .int v6), (0, .ref 102), (1, .ref q), (2, .int x2), (3, .int (S.2.1 (q + 15) x2.toNatClampNeg)), (4, .int (S.2.1 (q + 16) x2.toNatClampNeg)), (5, .int v4)] [] S9 := by
          intro _
          refine q_aload_n 1 rfl rfl dX12_typesBehind_320 ?_
          refine q_aload_n 2 rfl rfl dX12_typesBehind_321 ?_
          refine q_getR (q_shQ0 (w.fx fx11) hq) (by decide) (by decide) rfl lfX12_391 dX12_typesBehind_322 (r := (q + 20)) (q_wrQ0_26 (w.fx fx11) hq) ?_
          refine q_iload 5 rfl dX12_typesBehind_325 ?_
          obtain ⟨hg41, h⟩ := q_guard h
          refine q_iald (q_shQ20 (w.fx fx11) hq) (q_inb_in hg41) dX12_typesBehind_327 ?_
          obtain ⟨r42, e43, h⟩ := q_bind h
          refine q_callV (ci := 12) (d := 0) (Mc := mX12_leave) (kc := 0) (nc := 0) [.int (S9.2.1 (q + 20) (S.2.1 (q + 16) x2.toNatClampNeg).toNatClampNeg)] okX12_leave (q_sh102 (w.fx fx11)) (by decide) rfl lmX12_467 inX12_leave seX12_leave rfl (Nat.le_of_ble_eq_true rfl) (Nat.le_of_ble_eq_true rfl) (Nat.le_refl _) (Nat.le_refl _) dX12_typesBehind_328 (q_L.deep (by decide) (kX12_leave (Q := fun r S' => r = none ∧ S' = r42) (w.fx fx11) e43 ⟨rfl, rfl⟩)) (q_kV ?_)
          have fx44 : q_Fx S r42 := q_Fx.tr (fx11) (fxX12_leave e43)
          refine q_goto 408 (by decide) dX12_typesBehind_331 ?_
          obtain rfl := Option.some.inj h
          exact q_vret rfl dX12_typesBehind_408 hQ
        rcases c40 with c40 | c40
        · exact q_tabIn (M := mX12_typesBehind) (pc := 82) (x := (S.2.1 (q + 15) x2.toNatClampNeg)) 320 (by rw [c40]; decide) (by rw [c40]; decide) (by rw [c40]; rfl) (by decide) dX12_typesBehind_82 (K trivial)
        · exact q_tabIn (M := mX12_typesBehind) (pc := 82) (x := (S.2.1 (q + 15) x2.toNatClampNeg)) 320 (by rw [c40]; decide) (by rw [c40]; decide) (by rw [c40]; rfl) (by decide) dX12_typesBehind_82 (K trivial)
      rw [if_neg c40] at h
      by_cases c45 : (S.2.1 (q + 15) x2.toNatClampNeg) = (33 : Int32)
      · rw [if_pos c45] at h
        refine q_tabIn (M := mX12_typesBehind) (pc := 82) (x := (S.2.1 (q + 15) x2.toNatClampNeg)) 334 (by rw [c45]; decide) (by rw [c45]; decide) (by rw [c45]; rfl) (by decide) dX12_typesBehind_82 ?_
        refine q_aload_n 1 rfl rfl dX12_typesBehind_334 ?_
        refine q_iload 0 rfl dX12_typesBehind_335 ?_
        obtain ⟨r46, e47, h⟩ := q_bind h
        refine q_callS (d := 0) (Mc := mX12_elementOf) (kc := 0) (nc := 0) [.int v6] okX12_elementOf lmX12_470 inX12_elementOf rfl (Nat.le_of_ble_eq_true rfl) (Nat.le_of_ble_eq_true rfl) (Nat.le_refl _) (Nat.le_refl _) dX12_typesBehind_337 (q_L.deep (by decide) (kX12_elementOf (Q := fun r S' => r = some (.int r46) ∧ S' = S9) (w.fx fx11) e47 ⟨rfl, rfl⟩)) (q_kI ?_)
        obtain ⟨r48, e49, h⟩ := q_bind h
        refine q_callV (ci := 12) (d := 0) (Mc := mX12_leave) (kc := 0) (nc := 0) [.int r46] okX12_leave (q_sh102 (w.fx fx11)) (by decide) rfl lmX12_467 inX12_leave seX12_leave rfl (Nat.le_of_ble_eq_true rfl) (Nat.le_of_ble_eq_true rfl) (Nat.le_refl _) (Nat.le_refl _) dX12_typesBehind_340 (q_L.deep (by decide) (kX12_leave (Q := fun r S' => r = none ∧ S' = r48) (w.fx fx11) e49 ⟨rfl, rfl⟩)) (q_kV ?_)
        have fx50 : q_Fx S r48 := q_Fx.tr (fx11) (fxX12_leave e49)
        refine q_goto 408 (by decide) dX12_typesBehind_343 ?_
        obtain rfl := Option.some.inj h
        exact q_vret rfl dX12_typesBehind_408 hQ
      rw [if_neg c45] at h
      by_cases c51 : (S.2.1 (q + 15) x2.toNatClampNeg) = (35 : Int32)
      · rw [if_pos c51] at h
        refine q_tabIn (M := mX12_typesBehind) (pc := 82) (x := (S.2.1 (q + 15) x2.toNatClampNeg)) 346 (by rw [c51]; decide) (by rw [c51]; decide) (by rw [c51]; rfl) (by decide) dX12_typesBehind_82 ?_
        refine q_aload_n 1 rfl rfl dX12_typesBehind_346 ?_
        refine q_aload_n 2 rfl rfl dX12_typesBehind_347 ?_
        refine q_getR (q_shQ0 (w.fx fx11) hq) (by decide) (by decide) rfl lfX12_288 dX12_typesBehind_348 (r := (q + 4)) (q_wrQ0_10 (w.fx fx11) hq) ?_
        refine q_iload 5 rfl dX12_typesBehind_351 ?_
        obtain ⟨hg52, h⟩ := q_guard h
        refine q_iald (q_shQ4 (w.fx fx11) hq) (q_inb_in hg52) dX12_typesBehind_353 ?_
        obtain ⟨r53, e54, h⟩ := q_bind h
        refine q_callV (ci := 12) (d := 0) (Mc := mX12_leave) (kc := 0) (nc := 0) [.int (S9.2.1 (q + 4) (S.2.1 (q + 16) x2.toNatClampNeg).toNatClampNeg)] okX12_leave (q_sh102 (w.fx fx11)) (by decide) rfl lmX12_467 inX12_leave seX12_leave rfl (Nat.le_of_ble_eq_true rfl) (Nat.le_of_ble_eq_true rfl) (Nat.le_refl _) (Nat.le_refl _) dX12_typesBehind_354 (q_L.deep (by decide) (kX12_leave (Q := fun r S' => r = none ∧ S' = r53) (w.fx fx11) e54 ⟨rfl, rfl⟩)) (q_kV ?_)
        have fx55 : q_Fx S r53 := q_Fx.tr (fx11) (fxX12_leave e54)
        refine q_goto 408 (by decide) dX12_typesBehind_357 ?_
        obtain rfl := Option.some.inj h
        exact q_vret rfl dX12_typesBehind_408 hQ
      rw [if_neg c51] at h
      by_cases c56 : (S.2.1 (q + 15) x2.toNatClampNeg) = (37 : Int32)
      · rw [if_pos c56] at h
        refine q_tabIn (M := mX12_typesBehind) (pc := 82) (x := (S.2.1 (q + 15) x2.toNatClampNeg)) 360 (by rw [c56]; decide) (by rw [c56]; decide) (by rw [c56]; rfl) (by decide) dX12_typesBehind_82 ?_
        refine q_aload_n 1 rfl rfl dX12_typesBehind_360 ?_
        refine q_iload 5 rfl dX12_typesBehind_361 ?_
        obtain ⟨r57, e58, h⟩ := q_bind h
        refine q_callV (ci := 12) (d := 0) (Mc := mX12_leave) (kc := 0) (nc := 0) [.int (S.2.1 (q + 16) x2.toNatClampNeg)] okX12_leave (q_sh102 (w.fx fx11)) (by decide) rfl lmX12_467 inX12_leave seX12_leave rfl (Nat.le_of_ble_eq_true rfl) (Nat.le_of_ble_eq_true rfl) (Nat.le_refl _) (Nat.le_refl _) dX12_typesBehind_363 (q_L.deep (by decide) (kX12_leave (Q := fun r S' => r = none ∧ S' = r57) (w.fx fx11) e58 ⟨rfl, rfl⟩)) (q_kV ?_)
        have fx59 : q_Fx S r57 := q_Fx.tr (fx11) (fxX12_leave e58)
        refine q_goto 408 (by decide) dX12_typesBehind_366 ?_
        obtain rfl := Option.some.inj h
        exact q_vret rfl dX12_typesBehind_408 hQ
      rw [if_neg c56] at h
      by_cases c60 : (S.2.1 (q + 15) x2.toNatClampNeg) = (39 : Int32) ∨ (S.2.1 (q + 15) x2.toNatClampNeg) = (40 : Int32)
      · rw [if_pos c60] at h
        have K : ∀ (hK : True), q_L g mX12_typesBehind 1 0 0 Q 0 0 369 [(6, .int v6), (0, .ref 102), (1, .ref q), (2, .int x2), (3, .int (S.2.1 (q + 15) x2.toNatClampNeg)), (4, .int (S.2.1 (q + 16) x2.toNatClampNeg)), (5, .int v4)] [] S9 := by
          intro _
          refine q_aload_n 2 rfl rfl dX12_typesBehind_369 ?_
          refine q_getR (q_shQ0 (w.fx fx11) hq) (by decide) (by decide) rfl lfX12_308 dX12_typesBehind_370 (r := (q + 10)) (q_wrQ0_16 (w.fx fx11) hq) ?_
          refine q_iload 5 rfl dX12_typesBehind_373 ?_
          obtain ⟨hg61, h⟩ := q_guard h
          refine q_iald (q_shQ10 (w.fx fx11) hq) (q_inb_in hg61) dX12_typesBehind_375 ?_
          refine q_iconst (v := (-1 : Int32)) (by decide) dX12_typesBehind_376 ?_
          refine q_icmp_eq 408 (by decide) dX12_typesBehind_377 (fun c => ?_) (fun c => ?_)
          · rw [if_pos c] at h
            obtain rfl := Option.some.inj h
            exact q_vret rfl dX12_typesBehind_408 hQ
          · rw [if_neg c] at h
            refine q_aload_n 1 rfl rfl dX12_typesBehind_380 ?_
            refine q_aload_n 2 rfl rfl dX12_typesBehind_381 ?_
            refine q_getR (q_shQ0 (w.fx fx11) hq) (by decide) (by decide) rfl lfX12_308 dX12_typesBehind_382 (r := (q + 10)) (q_wrQ0_16 (w.fx fx11) hq) ?_
            refine q_iload 5 rfl dX12_typesBehind_385 ?_
            obtain ⟨hg62, h⟩ := q_guard h
            refine q_iald (q_shQ10 (w.fx fx11) hq) (q_inb_in hg62) dX12_typesBehind_387 ?_
            obtain ⟨r63, e64, h⟩ := q_bind h
            refine q_callV (ci := 12) (d := 0) (Mc := mX12_leave) (kc := 0) (nc := 0) [.int (S9.2.1 (q + 10) (S.2.1 (q + 16) x2.toNatClampNeg).toNatClampNeg)] okX12_leave (q_sh102 (w.fx fx11)) (by decide) rfl lmX12_467 inX12_leave seX12_leave rfl (Nat.le_of_ble_eq_true rfl) (Nat.le_of_ble_eq_true rfl) (Nat.le_refl _) (Nat.le_refl _) dX12_typesBehind_388 (q_L.deep (by decide) (kX12_leave (Q := fun r S' => r = none ∧ S' = r63) (w.fx fx11) e64 ⟨rfl, rfl⟩)) (q_kV ?_)
            have fx65 : q_Fx S r63 := q_Fx.tr (fx11) (fxX12_leave e64)
            refine q_goto 408 (by decide) dX12_typesBehind_391 ?_
            obtain rfl := Option.some.inj h
            exact q_vret rfl dX12_typesBehind_408 hQ
        rcases c60 with c60 | c60
        · exact q_tabIn (M := mX12_typesBehind) (pc := 82) (x := (S.2.1 (q + 15) x2.toNatClampNeg)) 369 (by rw [c60]; decide) (by rw [c60]; decide) (by rw [c60]; rfl) (by decide) dX12_typesBehind_82 (K trivial)
        · exact q_tabIn (M := mX12_typesBehind) (pc := 82) (x := (S.2.1 (q + 15) x2.toNatClampNeg)) 369 (by rw [c60]; decide) (by rw [c60]; decide) (by rw [c60]; rfl) (by decide) dX12_typesBehind_82 (K trivial)
      rw [if_neg c60] at h
      have n71 : ¬ (S.2.1 (q + 15) x2.toNatClampNeg) = (30 : Int32) := (fun q => c40 (Or.inl q))
      have n72 : ¬ (S.2.1 (q + 15) x2.toNatClampNeg) = (31 : Int32) := (fun q => c40 (Or.inr (q)))
      have n73 : ¬ (S.2.1 (q + 15) x2.toNatClampNeg) = (39 : Int32) := (fun q => c60 (Or.inl q))
      have n74 : ¬ (S.2.1 (q + 15) x2.toNatClampNeg) = (40 : Int32) := (fun q => c60 (Or.inr (q)))
      have K : ∀ (hK : True), q_L g mX12_typesBehind 1 0 0 Q 0 0 394 [(6, .int v6), (0, .ref 102), (1, .ref q), (2, .int x2), (3, .int (S.2.1 (q + 15) x2.toNatClampNeg)), (4, .int (S.2.1 (q + 16) x2.toNatClampNeg)), (5, .int v4)] [] S9 := by
        intro _
        refine q_aload_n 2 rfl rfl dX12_typesBehind_394 ?_
        refine q_iload_n 3 rfl rfl dX12_typesBehind_395 ?_
        obtain ⟨r66, e67, h⟩ := q_bind h
        refine q_callS (d := 0) (Mc := mX12_leaves) (kc := 0) (nc := 0) [.ref q, .int x2] okX12_leaves lmX12_430 inX12_leaves rfl (Nat.le_of_ble_eq_true rfl) (Nat.le_of_ble_eq_true rfl) (Nat.le_refl _) (Nat.le_refl _) dX12_typesBehind_396 (q_L.deep (by decide) (kX12_leaves (Q := fun r S' => r = some (.int r66) ∧ S' = S9) (w.fx fx11) hq e67 ⟨rfl, rfl⟩)) (q_kI ?_)
        refine q_iconst (v := (1 : Int32)) (by decide) dX12_typesBehind_399 ?_
        refine q_icmp_ne 408 (by decide) dX12_typesBehind_400 (fun c => ?_) (fun c => ?_)
        · rw [if_neg c] at h
          obtain rfl := Option.some.inj h
          exact q_vret rfl dX12_typesBehind_408 hQ
        · rw [if_pos c] at h
          refine q_aload_n 1 rfl rfl dX12_typesBehind_403 ?_
          refine q_iconst (v := (0 : Int32)) (by decide) dX12_typesBehind_404 ?_
          obtain ⟨r68, e69, h⟩ := q_bind h
          refine q_callV (ci := 12) (d := 0) (Mc := mX12_leave) (kc := 0) (nc := 0) [.int (0 : Int32)] okX12_leave (q_sh102 (w.fx fx11)) (by decide) rfl lmX12_467 inX12_leave seX12_leave rfl (Nat.le_of_ble_eq_true rfl) (Nat.le_of_ble_eq_true rfl) (Nat.le_refl _) (Nat.le_refl _) dX12_typesBehind_405 (q_L.deep (by decide) (kX12_leave (Q := fun r S' => r = none ∧ S' = r68) (w.fx fx11) e69 ⟨rfl, rfl⟩)) (q_kV ?_)
          have fx70 : q_Fx S r68 := q_Fx.tr (fx11) (fxX12_leave e69)
          obtain rfl := Option.some.inj h
          exact q_vret rfl dX12_typesBehind_408 hQ
      by_cases n75 : (S.2.1 (q + 15) x2.toNatClampNeg) = (4 : Int32)
      · exact q_tabIn (M := mX12_typesBehind) (pc := 82) (x := (S.2.1 (q + 15) x2.toNatClampNeg)) 394 (by rw [n75]; decide) (by rw [n75]; decide) (by rw [n75]; rfl) (by decide) dX12_typesBehind_82 (K trivial)
      by_cases n76 : (S.2.1 (q + 15) x2.toNatClampNeg) = (6 : Int32)
      · exact q_tabIn (M := mX12_typesBehind) (pc := 82) (x := (S.2.1 (q + 15) x2.toNatClampNeg)) 394 (by rw [n76]; decide) (by rw [n76]; decide) (by rw [n76]; rfl) (by decide) dX12_typesBehind_82 (K trivial)
      by_cases n77 : (S.2.1 (q + 15) x2.toNatClampNeg) = (8 : Int32)
      · exact q_tabIn (M := mX12_typesBehind) (pc := 82) (x := (S.2.1 (q + 15) x2.toNatClampNeg)) 394 (by rw [n77]; decide) (by rw [n77]; decide) (by rw [n77]; rfl) (by decide) dX12_typesBehind_82 (K trivial)
      by_cases n78 : (S.2.1 (q + 15) x2.toNatClampNeg) = (9 : Int32)
      · exact q_tabIn (M := mX12_typesBehind) (pc := 82) (x := (S.2.1 (q + 15) x2.toNatClampNeg)) 394 (by rw [n78]; decide) (by rw [n78]; decide) (by rw [n78]; rfl) (by decide) dX12_typesBehind_82 (K trivial)
      by_cases n79 : (S.2.1 (q + 15) x2.toNatClampNeg) = (10 : Int32)
      · exact q_tabIn (M := mX12_typesBehind) (pc := 82) (x := (S.2.1 (q + 15) x2.toNatClampNeg)) 394 (by rw [n79]; decide) (by rw [n79]; decide) (by rw [n79]; rfl) (by decide) dX12_typesBehind_82 (K trivial)
      by_cases n80 : (S.2.1 (q + 15) x2.toNatClampNeg) = (11 : Int32)
      · exact q_tabIn (M := mX12_typesBehind) (pc := 82) (x := (S.2.1 (q + 15) x2.toNatClampNeg)) 394 (by rw [n80]; decide) (by rw [n80]; decide) (by rw [n80]; rfl) (by decide) dX12_typesBehind_82 (K trivial)
      by_cases n81 : (S.2.1 (q + 15) x2.toNatClampNeg) = (12 : Int32)
      · exact q_tabIn (M := mX12_typesBehind) (pc := 82) (x := (S.2.1 (q + 15) x2.toNatClampNeg)) 394 (by rw [n81]; decide) (by rw [n81]; decide) (by rw [n81]; rfl) (by decide) dX12_typesBehind_82 (K trivial)
      by_cases n82 : (S.2.1 (q + 15) x2.toNatClampNeg) = (13 : Int32)
      · exact q_tabIn (M := mX12_typesBehind) (pc := 82) (x := (S.2.1 (q + 15) x2.toNatClampNeg)) 394 (by rw [n82]; decide) (by rw [n82]; decide) (by rw [n82]; rfl) (by decide) dX12_typesBehind_82 (K trivial)
      by_cases n83 : (S.2.1 (q + 15) x2.toNatClampNeg) = (14 : Int32)
      · exact q_tabIn (M := mX12_typesBehind) (pc := 82) (x := (S.2.1 (q + 15) x2.toNatClampNeg)) 394 (by rw [n83]; decide) (by rw [n83]; decide) (by rw [n83]; rfl) (by decide) dX12_typesBehind_82 (K trivial)
      by_cases n84 : (S.2.1 (q + 15) x2.toNatClampNeg) = (15 : Int32)
      · exact q_tabIn (M := mX12_typesBehind) (pc := 82) (x := (S.2.1 (q + 15) x2.toNatClampNeg)) 394 (by rw [n84]; decide) (by rw [n84]; decide) (by rw [n84]; rfl) (by decide) dX12_typesBehind_82 (K trivial)
      by_cases n85 : (S.2.1 (q + 15) x2.toNatClampNeg) = (16 : Int32)
      · exact q_tabIn (M := mX12_typesBehind) (pc := 82) (x := (S.2.1 (q + 15) x2.toNatClampNeg)) 394 (by rw [n85]; decide) (by rw [n85]; decide) (by rw [n85]; rfl) (by decide) dX12_typesBehind_82 (K trivial)
      by_cases n86 : (S.2.1 (q + 15) x2.toNatClampNeg) = (17 : Int32)
      · exact q_tabIn (M := mX12_typesBehind) (pc := 82) (x := (S.2.1 (q + 15) x2.toNatClampNeg)) 394 (by rw [n86]; decide) (by rw [n86]; decide) (by rw [n86]; rfl) (by decide) dX12_typesBehind_82 (K trivial)
      by_cases n87 : (S.2.1 (q + 15) x2.toNatClampNeg) = (18 : Int32)
      · exact q_tabIn (M := mX12_typesBehind) (pc := 82) (x := (S.2.1 (q + 15) x2.toNatClampNeg)) 394 (by rw [n87]; decide) (by rw [n87]; decide) (by rw [n87]; rfl) (by decide) dX12_typesBehind_82 (K trivial)
      by_cases n88 : (S.2.1 (q + 15) x2.toNatClampNeg) = (19 : Int32)
      · exact q_tabIn (M := mX12_typesBehind) (pc := 82) (x := (S.2.1 (q + 15) x2.toNatClampNeg)) 394 (by rw [n88]; decide) (by rw [n88]; decide) (by rw [n88]; rfl) (by decide) dX12_typesBehind_82 (K trivial)
      by_cases n89 : (S.2.1 (q + 15) x2.toNatClampNeg) = (20 : Int32)
      · exact q_tabIn (M := mX12_typesBehind) (pc := 82) (x := (S.2.1 (q + 15) x2.toNatClampNeg)) 394 (by rw [n89]; decide) (by rw [n89]; decide) (by rw [n89]; rfl) (by decide) dX12_typesBehind_82 (K trivial)
      by_cases n90 : (S.2.1 (q + 15) x2.toNatClampNeg) = (21 : Int32)
      · exact q_tabIn (M := mX12_typesBehind) (pc := 82) (x := (S.2.1 (q + 15) x2.toNatClampNeg)) 394 (by rw [n90]; decide) (by rw [n90]; decide) (by rw [n90]; rfl) (by decide) dX12_typesBehind_82 (K trivial)
      by_cases n91 : (S.2.1 (q + 15) x2.toNatClampNeg) = (22 : Int32)
      · exact q_tabIn (M := mX12_typesBehind) (pc := 82) (x := (S.2.1 (q + 15) x2.toNatClampNeg)) 394 (by rw [n91]; decide) (by rw [n91]; decide) (by rw [n91]; rfl) (by decide) dX12_typesBehind_82 (K trivial)
      by_cases n92 : (S.2.1 (q + 15) x2.toNatClampNeg) = (23 : Int32)
      · exact q_tabIn (M := mX12_typesBehind) (pc := 82) (x := (S.2.1 (q + 15) x2.toNatClampNeg)) 394 (by rw [n92]; decide) (by rw [n92]; decide) (by rw [n92]; rfl) (by decide) dX12_typesBehind_82 (K trivial)
      by_cases n93 : (S.2.1 (q + 15) x2.toNatClampNeg) = (24 : Int32)
      · exact q_tabIn (M := mX12_typesBehind) (pc := 82) (x := (S.2.1 (q + 15) x2.toNatClampNeg)) 394 (by rw [n93]; decide) (by rw [n93]; decide) (by rw [n93]; rfl) (by decide) dX12_typesBehind_82 (K trivial)
      by_cases n94 : (S.2.1 (q + 15) x2.toNatClampNeg) = (25 : Int32)
      · exact q_tabIn (M := mX12_typesBehind) (pc := 82) (x := (S.2.1 (q + 15) x2.toNatClampNeg)) 394 (by rw [n94]; decide) (by rw [n94]; decide) (by rw [n94]; rfl) (by decide) dX12_typesBehind_82 (K trivial)
      by_cases n95 : (S.2.1 (q + 15) x2.toNatClampNeg) = (26 : Int32)
      · exact q_tabIn (M := mX12_typesBehind) (pc := 82) (x := (S.2.1 (q + 15) x2.toNatClampNeg)) 394 (by rw [n95]; decide) (by rw [n95]; decide) (by rw [n95]; rfl) (by decide) dX12_typesBehind_82 (K trivial)
      by_cases n96 : (S.2.1 (q + 15) x2.toNatClampNeg) = (27 : Int32)
      · exact q_tabIn (M := mX12_typesBehind) (pc := 82) (x := (S.2.1 (q + 15) x2.toNatClampNeg)) 394 (by rw [n96]; decide) (by rw [n96]; decide) (by rw [n96]; rfl) (by decide) dX12_typesBehind_82 (K trivial)
      by_cases n97 : (S.2.1 (q + 15) x2.toNatClampNeg) = (28 : Int32)
      · exact q_tabIn (M := mX12_typesBehind) (pc := 82) (x := (S.2.1 (q + 15) x2.toNatClampNeg)) 394 (by rw [n97]; decide) (by rw [n97]; decide) (by rw [n97]; rfl) (by decide) dX12_typesBehind_82 (K trivial)
      by_cases n98 : (S.2.1 (q + 15) x2.toNatClampNeg) = (29 : Int32)
      · exact q_tabIn (M := mX12_typesBehind) (pc := 82) (x := (S.2.1 (q + 15) x2.toNatClampNeg)) 394 (by rw [n98]; decide) (by rw [n98]; decide) (by rw [n98]; rfl) (by decide) dX12_typesBehind_82 (K trivial)
      by_cases n99 : (S.2.1 (q + 15) x2.toNatClampNeg) = (32 : Int32)
      · exact q_tabIn (M := mX12_typesBehind) (pc := 82) (x := (S.2.1 (q + 15) x2.toNatClampNeg)) 394 (by rw [n99]; decide) (by rw [n99]; decide) (by rw [n99]; rfl) (by decide) dX12_typesBehind_82 (K trivial)
      by_cases n100 : (S.2.1 (q + 15) x2.toNatClampNeg) = (34 : Int32)
      · exact q_tabIn (M := mX12_typesBehind) (pc := 82) (x := (S.2.1 (q + 15) x2.toNatClampNeg)) 394 (by rw [n100]; decide) (by rw [n100]; decide) (by rw [n100]; rfl) (by decide) dX12_typesBehind_82 (K trivial)
      by_cases n101 : (S.2.1 (q + 15) x2.toNatClampNeg) = (36 : Int32)
      · exact q_tabIn (M := mX12_typesBehind) (pc := 82) (x := (S.2.1 (q + 15) x2.toNatClampNeg)) 394 (by rw [n101]; decide) (by rw [n101]; decide) (by rw [n101]; rfl) (by decide) dX12_typesBehind_82 (K trivial)
      by_cases n102 : (S.2.1 (q + 15) x2.toNatClampNeg) = (38 : Int32)
      · exact q_tabIn (M := mX12_typesBehind) (pc := 82) (x := (S.2.1 (q + 15) x2.toNatClampNeg)) 394 (by rw [n102]; decide) (by rw [n102]; decide) (by rw [n102]; rfl) (by decide) dX12_typesBehind_82 (K trivial)
      exact q_tabOut (M := mX12_typesBehind) (pc := 82) (x := (S.2.1 (q + 15) x2.toNatClampNeg)) 394 (by have := lv_neT (a := 1) c12 (by decide); have := lv_neT (a := 2) c16 (by decide); have := lv_neT (a := 3) c21 (by decide); have := lv_neT (a := 5) c26 (by decide); have := lv_neT (a := 7) c33 (by decide); have := lv_neT (a := 30) n71 (by decide); have := lv_neT (a := 31) n72 (by decide); have := lv_neT (a := 33) c45 (by decide); have := lv_neT (a := 35) c51 (by decide); have := lv_neT (a := 37) c56 (by decide); have := lv_neT (a := 39) n73 (by decide); have := lv_neT (a := 40) n74 (by decide); have := lv_neT (a := 4) n75 (by decide); have := lv_neT (a := 6) n76 (by decide); have := lv_neT (a := 8) n77 (by decide); have := lv_neT (a := 9) n78 (by decide); have := lv_neT (a := 10) n79 (by decide); have := lv_neT (a := 11) n80 (by decide); have := lv_neT (a := 12) n81 (by decide); have := lv_neT (a := 13) n82 (by decide); have := lv_neT (a := 14) n83 (by decide); have := lv_neT (a := 15) n84 (by decide); have := lv_neT (a := 16) n85 (by decide); have := lv_neT (a := 17) n86 (by decide); have := lv_neT (a := 18) n87 (by decide); have := lv_neT (a := 19) n88 (by decide); have := lv_neT (a := 20) n89 (by decide); have := lv_neT (a := 21) n90 (by decide); have := lv_neT (a := 22) n91 (by decide); have := lv_neT (a := 23) n92 (by decide); have := lv_neT (a := 24) n93 (by decide); have := lv_neT (a := 25) n94 (by decide); have := lv_neT (a := 26) n95 (by decide); have := lv_neT (a := 27) n96 (by decide); have := lv_neT (a := 28) n97 (by decide); have := lv_neT (a := 29) n98 (by decide); have := lv_neT (a := 32) n99 (by decide); have := lv_neT (a := 34) n100 (by decide); have := lv_neT (a := 36) n101 (by decide); have := lv_neT (a := 38) n102 (by decide); omega) (by decide) dX12_typesBehind_82 (K trivial)
    replace h := hv
    refine q_icmp_le 64 (by decide) dX12_typesBehind_47 (fun c => ?_) (fun c => ?_)
    · rw [if_pos c] at h
      refine q_iconst (v := (2 : Int32)) (by decide) dX12_typesBehind_64 ?_
      obtain rfl := Option.some.inj h
      refine q_sub [1, 2, 3, 4, 5, 0] rfl ?_
      exact K2
    · rw [if_neg c] at h
      refine q_aload_n 1 rfl rfl dX12_typesBehind_50 ?_
      refine q_getR (q_sh102 w) (by decide) (by decide) rfl lfX12_61 dX12_typesBehind_51 (r := 171) (q_wr102_22 w) ?_
      refine q_aload_n 1 rfl rfl dX12_typesBehind_54 ?_
      refine q_getI (q_sh102 w) (by decide) (by decide) rfl lfX12_451 dX12_typesBehind_55 ?_
      refine q_iconst (v := (2 : Int32)) (by decide) dX12_typesBehind_58 ?_
      refine q_isub dX12_typesBehind_59 ?_
      obtain ⟨hg5, h⟩ := q_guard h
      refine q_iald (q_sh171 w) (q_inb_in hg5) dX12_typesBehind_60 ?_
      refine q_goto 65 (by decide) dX12_typesBehind_61 ?_
      obtain rfl := Option.some.inj h
      refine q_sub [1, 2, 3, 4, 5, 0] rfl ?_
      exact K2
  replace h := hv
  refine q_icmp_le 38 (by decide) dX12_typesBehind_21 (fun c => ?_) (fun c => ?_)
  · rw [if_pos c] at h
    refine q_iconst (v := (2 : Int32)) (by decide) dX12_typesBehind_38 ?_
    obtain rfl := Option.some.inj h
    refine q_sub [2, 3, 4, 1, 0] rfl ?_
    exact K1
  · rw [if_neg c] at h
    refine q_aload_n 2 rfl rfl dX12_typesBehind_24 ?_
    refine q_getR (q_sh102 w) (by decide) (by decide) rfl lfX12_61 dX12_typesBehind_25 (r := 171) (q_wr102_22 w) ?_
    refine q_aload_n 2 rfl rfl dX12_typesBehind_28 ?_
    refine q_getI (q_sh102 w) (by decide) (by decide) rfl lfX12_451 dX12_typesBehind_29 ?_
    refine q_iconst (v := (1 : Int32)) (by decide) dX12_typesBehind_32 ?_
    refine q_isub dX12_typesBehind_33 ?_
    obtain ⟨hg3, h⟩ := q_guard h
    refine q_iald (q_sh171 w) (q_inb_in hg3) dX12_typesBehind_34 ?_
    refine q_goto 39 (by decide) dX12_typesBehind_35 ?_
    obtain rfl := Option.some.inj h
    refine q_sub [2, 3, 4, 1, 0] rfl ?_
    exact K1
set_option maxRecDepth 20000 in
theorem kX12_typesOn_119 {S : QS} {g : QG} {Q : Option Value → QS → Prop} {q : Nat} {y2 : Int32} {y3 : Int32} {y4 : Int32} {r : Bool × QS} (w : q_Wire S) (hq : q_qok q) (h : fX12_typesOn_119 S q y2 y3 y4 = some r) (hQ : Q (some (.int (q_b r.1))) r.2) : q_L g mX12_typesOn 4 0 0 Q 0 0 119 [(0, .ref 102), (1, .ref q), (2, .int y2), (3, .int y3), (4, .int y4)] [] S := by
  unfold fX12_typesOn_119 at h
  refine q_aload_n 0 rfl rfl dX12_typesOn_119 ?_
  refine q_aload_n 1 rfl rfl dX12_typesOn_120 ?_
  refine q_iload_n 2 rfl rfl dX12_typesOn_121 ?_
  obtain ⟨r1, e2, h⟩ := q_bind h
  refine q_callV (ci := 12) (d := 3) (Mc := mX12_typesBehind) (kc := 0) (nc := 0) [.ref q, .int y2] okX12_typesBehind (q_sh102 w) (by decide) rfl lmX12_461 inX12_typesBehind seX12_typesBehind rfl (Nat.le_of_ble_eq_true rfl) (Nat.le_of_ble_eq_true rfl) (Nat.le_refl _) (Nat.le_refl _) dX12_typesOn_122 (q_L.deep (by decide) (kX12_typesBehind (Q := fun r S' => r = none ∧ S' = r1) w hq e2 ⟨rfl, rfl⟩)) (q_kV ?_)
  have fx3 : q_Fx S r1 := q_Fx.tr (q_Fx.rf S) (fxX12_typesBehind e2)
  refine q_iload 4 rfl dX12_typesOn_125 ?_
  obtain ⟨r4, e5, h⟩ := q_bind h
  refine q_callS (d := 3) (Mc := mX12_hasNext) (kc := 0) (nc := 0) [.int y4] okX12_hasNext lmX12_412 inX12_hasNext rfl (Nat.le_of_ble_eq_true rfl) (Nat.le_of_ble_eq_true rfl) (Nat.le_refl _) (Nat.le_refl _) dX12_typesOn_127 (q_L.deep (by decide) (kX12_hasNext (Q := fun r S' => r = some (.int (q_b r4)) ∧ S' = r1) (w.fx fx3) e5 ⟨rfl, rfl⟩)) (q_kI ?_)
  obtain ⟨v10, hv, h⟩ := q_bind h
  have fx11 : q_Fx S v10.2 := by
    replace h := hv
    by_cases c : r4 = true
    · rw [if_pos c] at h
      obtain ⟨r6, e7, h⟩ := q_bind h
      have fx8 : q_Fx S r6.2 := q_Fx.tr (fx3) (fxX12_typesTo e7)
      obtain ⟨v9, hv, h⟩ := q_bind h
      obtain rfl := Option.some.inj h
      exact fx8
    · rw [if_neg c] at h
      obtain rfl := Option.some.inj h
      exact fx3
  have K1 : q_L g mX12_typesOn 4 0 0 Q 0 0 154 [(0, .ref 102), (1, .ref q), (2, .int y2), (3, .int v10.1), (4, .int y4)] [] v10.2 := by
    refine q_iload 4 rfl dX12_typesOn_154 ?_
    obtain ⟨r12, e13, h⟩ := q_bind h
    refine q_callS (d := 3) (Mc := mX12_hasLabel) (kc := 0) (nc := 0) [.int y4] okX12_hasLabel lmX12_418 inX12_hasLabel rfl (Nat.le_of_ble_eq_true rfl) (Nat.le_of_ble_eq_true rfl) (Nat.le_refl _) (Nat.le_refl _) dX12_typesOn_156 (q_L.deep (by decide) (kX12_hasLabel (Q := fun r S' => r = some (.int (q_b r12)) ∧ S' = v10.2) (w.fx fx11) e13 ⟨rfl, rfl⟩)) (q_kI ?_)
    refine q_if_eq 186 (by decide) dX12_typesOn_159 (fun c => ?_) (fun c => ?_)
    · have c := q_b_0.mp c; rw [q_if0 c] at h
      refine q_iload_n 3 rfl rfl dX12_typesOn_186 ?_
      obtain ⟨hgb, h⟩ := q_guard h
      obtain rfl := Option.some.inj h
      exact q_iret rfl (q_bdec_n hgb) dX12_typesOn_187 (by rw [← q_bdec hgb]; exact hQ)
    · have c := q_b_n.mp c; rw [q_if1 c] at h
      refine q_aload_n 0 rfl rfl dX12_typesOn_162 ?_
      refine q_aload_n 1 rfl rfl dX12_typesOn_163 ?_
      refine q_aload_n 1 rfl rfl dX12_typesOn_164 ?_
      refine q_getR (q_shQ0 (w.fx fx11) hq) (by decide) (by decide) rfl lfX12_376 dX12_typesOn_165 (r := (q + 16)) (q_wrQ0_22 (w.fx fx11) hq) ?_
      refine q_iload_n 2 rfl rfl dX12_typesOn_168 ?_
      obtain ⟨hg14, h⟩ := q_guard h
      refine q_iald (q_shQ16 (w.fx fx11) hq) (q_inb_in hg14) dX12_typesOn_169 ?_
      obtain ⟨r15, e16, h⟩ := q_bind h
      refine q_callV (ci := 12) (d := 3) (Mc := mX12_typesTo) (kc := 0) (nc := 0) [.ref q, .int (v10.2.2.1 (q + 16) y2.toNatClampNeg)] okX12_typesTo (q_sh102 (w.fx fx11)) (by decide) rfl lmX12_458 inX12_typesTo seX12_typesTo rfl (Nat.le_of_ble_eq_true rfl) (Nat.le_of_ble_eq_true rfl) (Nat.le_refl _) (Nat.le_refl _) dX12_typesOn_170 (q_L.deep (by decide) (kX12_typesTo (Q := fun r S' => r = some (.int (q_b r15.1)) ∧ S' = r15.2) (w.fx fx11) hq e16 ⟨rfl, rfl⟩)) (q_kI ?_)
      have fx17 : q_Fx S r15.2 := q_Fx.tr (fx11) (fxX12_typesTo e16)
      refine q_if_ne 180 (by decide) dX12_typesOn_173 (fun c => ?_) (fun c => ?_)
      · have c := q_b_n.mp c; rw [q_if1 c] at h
        refine q_iconst (v := (1 : Int32)) (by decide) dX12_typesOn_180 ?_
        refine q_goto 185 (by decide) dX12_typesOn_181 ?_
        refine q_istore_n [(3, .int (1 : Int32)), (0, .ref 102), (1, .ref q), (2, .int y2), (4, .int y4)] rfl (by decide) rfl dX12_typesOn_185 ?_
        refine q_iload_n 0 rfl rfl dX12_typesOn_186 ?_
        obtain rfl := Option.some.inj h
        exact q_iret rfl (by decide) dX12_typesOn_187 hQ
      · have c := q_b_0.mp c; rw [q_if0 c] at h
        refine q_iload_n 3 rfl rfl dX12_typesOn_176 ?_
        refine q_if_eq 184 (by decide) dX12_typesOn_177 (fun c => ?_) (fun c => ?_)
        · rw [if_pos c] at h
          refine q_iconst (v := (0 : Int32)) (by decide) dX12_typesOn_184 ?_
          refine q_istore_n [(3, .int (0 : Int32)), (0, .ref 102), (1, .ref q), (2, .int y2), (4, .int y4)] rfl (by decide) rfl dX12_typesOn_185 ?_
          refine q_iload_n 0 rfl rfl dX12_typesOn_186 ?_
          obtain rfl := Option.some.inj h
          exact q_iret rfl (by decide) dX12_typesOn_187 hQ
        · rw [if_neg c] at h
          refine q_iconst (v := (1 : Int32)) (by decide) dX12_typesOn_180 ?_
          refine q_goto 185 (by decide) dX12_typesOn_181 ?_
          refine q_istore_n [(3, .int (1 : Int32)), (0, .ref 102), (1, .ref q), (2, .int y2), (4, .int y4)] rfl (by decide) rfl dX12_typesOn_185 ?_
          refine q_iload_n 0 rfl rfl dX12_typesOn_186 ?_
          obtain rfl := Option.some.inj h
          exact q_iret rfl (by decide) dX12_typesOn_187 hQ
  replace h := hv
  refine q_if_eq 154 (by decide) dX12_typesOn_130 (fun c => ?_) (fun c => ?_)
  · have c := q_b_0.mp c; rw [q_if0 c] at h
    obtain rfl := Option.some.inj h
    refine q_sub [0, 1, 2, 3, 4] rfl ?_
    exact K1
  · have c := q_b_n.mp c; rw [q_if1 c] at h
    refine q_aload_n 0 rfl rfl dX12_typesOn_133 ?_
    refine q_aload_n 1 rfl rfl dX12_typesOn_134 ?_
    refine q_iload_n 2 rfl rfl dX12_typesOn_135 ?_
    refine q_iconst (v := (1 : Int32)) (by decide) dX12_typesOn_136 ?_
    refine q_iadd dX12_typesOn_137 ?_
    obtain ⟨r6, e7, h⟩ := q_bind h
    refine q_callV (ci := 12) (d := 3) (Mc := mX12_typesTo) (kc := 0) (nc := 0) [.ref q, .int (y2 + (1 : Int32))] okX12_typesTo (q_sh102 (w.fx fx3)) (by decide) rfl lmX12_458 inX12_typesTo seX12_typesTo rfl (Nat.le_of_ble_eq_true rfl) (Nat.le_of_ble_eq_true rfl) (Nat.le_refl _) (Nat.le_refl _) dX12_typesOn_138 (q_L.deep (by decide) (kX12_typesTo (Q := fun r S' => r = some (.int (q_b r6.1)) ∧ S' = r6.2) (w.fx fx3) hq e7 ⟨rfl, rfl⟩)) (q_kI ?_)
    have fx8 : q_Fx S r6.2 := q_Fx.tr (fx3) (fxX12_typesTo e7)
    obtain ⟨v9, hv, h⟩ := q_bind h
    have K2 : q_L g mX12_typesOn 4 0 0 Q 0 0 153 [(0, .ref 102), (1, .ref q), (2, .int y2), (4, .int y4)] [.int (q_b v9)] r6.2 := by
      refine q_istore_n [(3, .int (q_b v9)), (0, .ref 102), (1, .ref q), (2, .int y2), (4, .int y4)] rfl (by decide) rfl dX12_typesOn_153 ?_
      obtain rfl := Option.some.inj h
      refine q_sub [1, 2, 3, 0, 4] rfl ?_
      exact K1
    replace h := hv
    refine q_if_ne 148 (by decide) dX12_typesOn_141 (fun c => ?_) (fun c => ?_)
    · have c := q_b_n.mp c; rw [q_if1 c] at h
      refine q_iconst (v := (1 : Int32)) (by decide) dX12_typesOn_148 ?_
      refine q_goto 153 (by decide) dX12_typesOn_149 ?_
      obtain rfl := Option.some.inj h
      refine q_sub [0, 1, 2, 4] rfl ?_
      exact K2
    · have c := q_b_0.mp c; rw [q_if0 c] at h
      refine q_iload_n 3 rfl rfl dX12_typesOn_144 ?_
      refine q_if_eq 152 (by decide) dX12_typesOn_145 (fun c => ?_) (fun c => ?_)
      · rw [if_pos c] at h
        refine q_iconst (v := (0 : Int32)) (by decide) dX12_typesOn_152 ?_
        obtain rfl := Option.some.inj h
        refine q_sub [0, 1, 2, 4] rfl ?_
        exact K2
      · rw [if_neg c] at h
        refine q_iconst (v := (1 : Int32)) (by decide) dX12_typesOn_148 ?_
        refine q_goto 153 (by decide) dX12_typesOn_149 ?_
        obtain rfl := Option.some.inj h
        refine q_sub [0, 1, 2, 4] rfl ?_
        exact K2
set_option maxRecDepth 20000 in
theorem sX12_typesOn_5 {g : QG} {Q : Option Value → QS → Prop} {q : Nat} {y2 : Int32} {x : Int32 × Int32 × QS} {z : (Bool × QS) ⊕ (Int32 × Int32 × QS)} (w : q_Wire x.2.2) (hq : q_qok q) (h : tX12_typesOn_5 q y2 x = some z) (hQ : (Sum.elim (fun r0 : Bool × QS => Q (some (.int (q_b r0.1))) r0.2) (fun y : Int32 × Int32 × QS => q_L g mX12_typesOn 4 0 0 Q 0 0 5 [(0, .ref 102), (1, .ref q), (2, .int y2), (3, .int y.1), (4, .int y.2.1)] [] y.2.2) z)) : q_L g mX12_typesOn 4 0 0 Q 0 0 5 [(0, .ref 102), (1, .ref q), (2, .int y2), (3, .int x.1), (4, .int x.2.1)] [] x.2.2 := by
  unfold tX12_typesOn_5 at h
  refine q_iload 4 rfl dX12_typesOn_5 ?_
  refine q_aload_n 1 rfl rfl dX12_typesOn_7 ?_
  refine q_getI (q_shQ0 w hq) (by decide) (by decide) rfl lfX12_324 dX12_typesOn_8 ?_
  refine q_icmp_ge 81 (by decide) dX12_typesOn_11 (fun c => ?_) (fun c => ?_)
  · rw [if_pos c] at h
    refine q_aload_n 0 rfl rfl dX12_typesOn_81 ?_
    refine q_aload_n 1 rfl rfl dX12_typesOn_82 ?_
    refine q_iload_n 2 rfl rfl dX12_typesOn_83 ?_
    obtain ⟨r18, e19, h⟩ := q_bind h
    refine q_callV (ci := 12) (d := 3) (Mc := mX12_typesAt) (kc := 0) (nc := 0) [.ref q, .int y2] okX12_typesAt (q_sh102 w) (by decide) rfl lmX12_454 inX12_typesAt seX12_typesAt rfl (Nat.le_of_ble_eq_true rfl) (Nat.le_of_ble_eq_true rfl) (Nat.le_refl _) (Nat.le_refl _) dX12_typesOn_84 (q_L.deep (by decide) (kX12_typesAt (Q := fun r S' => r = none ∧ S' = r18) w hq e19 ⟨rfl, rfl⟩)) (q_kV ?_)
    have fx20 : q_Fx x.2.2 r18 := q_Fx.tr (q_Fx.rf x.2.2) (fxX12_typesAt e19)
    refine q_aload_n 1 rfl rfl dX12_typesOn_87 ?_
    refine q_getR (q_shQ0 (w.fx fx20) hq) (by decide) (by decide) rfl lfX12_353 dX12_typesOn_88 (r := (q + 15)) (q_wrQ0_21 (w.fx fx20) hq) ?_
    refine q_iload_n 2 rfl rfl dX12_typesOn_91 ?_
    obtain ⟨hg21, h⟩ := q_guard h
    refine q_iald (q_shQ15 (w.fx fx20) hq) (q_inb_in hg21) dX12_typesOn_92 ?_
    refine q_istore [(4, .int (r18.2.1 (q + 15) y2.toNatClampNeg)), (0, .ref 102), (1, .ref q), (2, .int y2), (3, .int x.1)] (by decide) rfl dX12_typesOn_93 ?_
    refine q_iload 0 rfl dX12_typesOn_95 ?_
    refine q_bipush (v := (33 : Int32)) (by decide) dX12_typesOn_97 ?_
    refine q_icmp_ne 119 (by decide) dX12_typesOn_99 (fun c => ?_) (fun c => ?_)
    · rw [if_neg c] at h
      refine q_sub [1, 2, 3, 4, 0] rfl ?_
      obtain ⟨r22, e23, h⟩ := q_bind h
      cases h
      exact kX12_typesOn_119 (w.fx fx20) hq e23 hQ
    · rw [if_pos c] at h
      refine q_aload_n 1 rfl rfl dX12_typesOn_102 ?_
      refine q_getR (q_sh102 (w.fx fx20)) (by decide) (by decide) rfl lfX12_61 dX12_typesOn_103 (r := 171) (q_wr102_22 (w.fx fx20)) ?_
      refine q_aload_n 1 rfl rfl dX12_typesOn_106 ?_
      refine q_getI (q_sh102 (w.fx fx20)) (by decide) (by decide) rfl lfX12_451 dX12_typesOn_107 ?_
      refine q_iconst (v := (2 : Int32)) (by decide) dX12_typesOn_110 ?_
      refine q_isub dX12_typesOn_111 ?_
      obtain ⟨hg24, h⟩ := q_guard h
      refine q_iald (q_sh171 (w.fx fx20)) (q_inb_in hg24) dX12_typesOn_112 ?_
      refine q_iconst (v := (1 : Int32)) (by decide) dX12_typesOn_113 ?_
      refine q_icmp_ne 119 (by decide) dX12_typesOn_114 (fun c => ?_) (fun c => ?_)
      · rw [if_neg c] at h
        refine q_sub [1, 2, 3, 4, 0] rfl ?_
        obtain ⟨r25, e26, h⟩ := q_bind h
        cases h
        exact kX12_typesOn_119 (w.fx fx20) hq e26 hQ
      · rw [if_pos c] at h
        refine q_iload_n 4 rfl rfl dX12_typesOn_117 ?_
        obtain ⟨hgb, h⟩ := q_guard h
        cases h
        exact q_iret rfl (q_bdec_n hgb) dX12_typesOn_118 (by rw [← q_bdec hgb]; exact hQ)
  · rw [if_neg c] at h
    refine q_aload_n 1 rfl rfl dX12_typesOn_14 ?_
    refine q_iload 4 rfl dX12_typesOn_15 ?_
    refine q_iload_n 2 rfl rfl dX12_typesOn_17 ?_
    obtain ⟨r27, e28, h⟩ := q_bind h
    refine q_callS (d := 3) (Mc := mX12_covers) (kc := 0) (nc := 0) [.ref q, .int x.2.1, .int y2] okX12_covers lmX12_421 inX12_covers rfl (Nat.le_of_ble_eq_true rfl) (Nat.le_of_ble_eq_true rfl) (Nat.le_refl _) (Nat.le_refl _) dX12_typesOn_18 (q_L.deep (by decide) (kX12_covers (Q := fun r S' => r = some (.int (q_b r27)) ∧ S' = x.2.2) w hq e28 ⟨rfl, rfl⟩)) (q_kI ?_)
    refine q_if_ne 27 (by decide) dX12_typesOn_21 (fun c => ?_) (fun c => ?_)
    · have c := q_b_n.mp c; rw [q_if1 c] at h
      refine q_aload_n 0 rfl rfl dX12_typesOn_27 ?_
      refine q_aload_n 1 rfl rfl dX12_typesOn_28 ?_
      refine q_iload_n 2 rfl rfl dX12_typesOn_29 ?_
      obtain ⟨r29, e30, h⟩ := q_bind h
      refine q_callV (ci := 12) (d := 3) (Mc := mX12_typesAt) (kc := 0) (nc := 0) [.ref q, .int y2] okX12_typesAt (q_sh102 w) (by decide) rfl lmX12_454 inX12_typesAt seX12_typesAt rfl (Nat.le_of_ble_eq_true rfl) (Nat.le_of_ble_eq_true rfl) (Nat.le_refl _) (Nat.le_refl _) dX12_typesOn_30 (q_L.deep (by decide) (kX12_typesAt (Q := fun r S' => r = none ∧ S' = r29) w hq e30 ⟨rfl, rfl⟩)) (q_kV ?_)
      have fx31 : q_Fx x.2.2 r29 := q_Fx.tr (q_Fx.rf x.2.2) (fxX12_typesAt e30)
      refine q_aload_n 0 rfl rfl dX12_typesOn_33 ?_
      refine q_getR (q_sh102 (w.fx fx31)) (by decide) (by decide) rfl lfX12_61 dX12_typesOn_34 (r := 171) (q_wr102_22 (w.fx fx31)) ?_
      refine q_bipush (v := (12 : Int32)) (by decide) dX12_typesOn_37 ?_
      refine q_bipush (v := (8 : Int32)) (by decide) dX12_typesOn_39 ?_
      refine q_aload_n 1 rfl rfl dX12_typesOn_41 ?_
      refine q_getR (q_shQ0 (w.fx fx31) hq) (by decide) (by decide) rfl lfX12_371 dX12_typesOn_42 (r := (q + 25)) (q_wrQ0_31 (w.fx fx31) hq) ?_
      refine q_iload 4 rfl dX12_typesOn_45 ?_
      obtain ⟨hg32, h⟩ := q_guard h
      refine q_iald (q_shQ25 (w.fx fx31) hq) (q_inb_in hg32) dX12_typesOn_47 ?_
      refine q_iadd dX12_typesOn_48 ?_
      obtain ⟨hg33, h⟩ := q_guard h
      refine q_iast (q_sh171 (w.fx fx31)) (q_inb_in hg33) dX12_typesOn_49 ?_
      obtain ⟨S34, e35, h⟩ := q_bindS h
      refine q_st e35 ?_
      have fx36 : q_Fx x.2.2 S34 := e35 ▸ q_Fx.sI (fx31)
      refine q_aload_n 0 rfl rfl dX12_typesOn_50 ?_
      refine q_aload_n 1 rfl rfl dX12_typesOn_51 ?_
      refine q_aload_n 1 rfl rfl dX12_typesOn_52 ?_
      refine q_getR (q_shQ0 (w.fx fx36) hq) (by decide) (by decide) rfl lfX12_368 dX12_typesOn_53 (r := (q + 24)) (q_wrQ0_30 (w.fx fx36) hq) ?_
      refine q_iload 4 rfl dX12_typesOn_56 ?_
      obtain ⟨hg37, h⟩ := q_guard h
      refine q_iald (q_shQ24 (w.fx fx36) hq) (q_inb_in hg37) dX12_typesOn_58 ?_
      obtain ⟨r38, e39, h⟩ := q_bind h
      refine q_callV (ci := 12) (d := 3) (Mc := mX12_typesTo) (kc := 0) (nc := 0) [.ref q, .int (S34.2.1 (q + 24) x.2.1.toNatClampNeg)] okX12_typesTo (q_sh102 (w.fx fx36)) (by decide) rfl lmX12_458 inX12_typesTo seX12_typesTo rfl (Nat.le_of_ble_eq_true rfl) (Nat.le_of_ble_eq_true rfl) (Nat.le_refl _) (Nat.le_refl _) dX12_typesOn_59 (q_L.deep (by decide) (kX12_typesTo (Q := fun r S' => r = some (.int (q_b r38.1)) ∧ S' = r38.2) (w.fx fx36) hq e39 ⟨rfl, rfl⟩)) (q_kI ?_)
      have fx40 : q_Fx x.2.2 r38.2 := q_Fx.tr (fx36) (fxX12_typesTo e39)
      refine q_if_ne 69 (by decide) dX12_typesOn_62 (fun c => ?_) (fun c => ?_)
      · have c := q_b_n.mp c; rw [q_if1 c] at h
        refine q_iconst (v := (1 : Int32)) (by decide) dX12_typesOn_69 ?_
        refine q_goto 74 (by decide) dX12_typesOn_70 ?_
        refine q_istore_n [(3, .int (1 : Int32)), (0, .ref 102), (1, .ref q), (2, .int y2), (4, .int x.2.1)] rfl (by decide) rfl dX12_typesOn_74 ?_
        refine q_iinc (v := (x.2.1 + (1 : Int32))) 4 [(4, .int (x.2.1 + (1 : Int32))), (3, .int (1 : Int32)), (0, .ref 102), (1, .ref q), (2, .int y2)] (by decide) rfl (congrArg (fun t => x.2.1 + t) (by decide)) rfl dX12_typesOn_75 ?_
        refine q_goto 5 (by decide) dX12_typesOn_78 ?_
        refine q_sub [2, 3, 4, 1, 0] rfl ?_
        cases h
        exact hQ
      · have c := q_b_0.mp c; rw [q_if0 c] at h
        refine q_iload_n 3 rfl rfl dX12_typesOn_65 ?_
        refine q_if_eq 73 (by decide) dX12_typesOn_66 (fun c => ?_) (fun c => ?_)
        · rw [if_pos c] at h
          refine q_iconst (v := (0 : Int32)) (by decide) dX12_typesOn_73 ?_
          refine q_istore_n [(3, .int (0 : Int32)), (0, .ref 102), (1, .ref q), (2, .int y2), (4, .int x.2.1)] rfl (by decide) rfl dX12_typesOn_74 ?_
          refine q_iinc (v := (x.2.1 + (1 : Int32))) 4 [(4, .int (x.2.1 + (1 : Int32))), (3, .int (0 : Int32)), (0, .ref 102), (1, .ref q), (2, .int y2)] (by decide) rfl (congrArg (fun t => x.2.1 + t) (by decide)) rfl dX12_typesOn_75 ?_
          refine q_goto 5 (by decide) dX12_typesOn_78 ?_
          refine q_sub [2, 3, 4, 1, 0] rfl ?_
          cases h
          exact hQ
        · rw [if_neg c] at h
          refine q_iconst (v := (1 : Int32)) (by decide) dX12_typesOn_69 ?_
          refine q_goto 74 (by decide) dX12_typesOn_70 ?_
          refine q_istore_n [(3, .int (1 : Int32)), (0, .ref 102), (1, .ref q), (2, .int y2), (4, .int x.2.1)] rfl (by decide) rfl dX12_typesOn_74 ?_
          refine q_iinc (v := (x.2.1 + (1 : Int32))) 4 [(4, .int (x.2.1 + (1 : Int32))), (3, .int (1 : Int32)), (0, .ref 102), (1, .ref q), (2, .int y2)] (by decide) rfl (congrArg (fun t => x.2.1 + t) (by decide)) rfl dX12_typesOn_75 ?_
          refine q_goto 5 (by decide) dX12_typesOn_78 ?_
          refine q_sub [2, 3, 4, 1, 0] rfl ?_
          cases h
          exact hQ
    · have c := q_b_0.mp c; rw [q_if0 c] at h
      refine q_goto 75 (by decide) dX12_typesOn_24 ?_
      refine q_iinc (v := (x.2.1 + (1 : Int32))) 4 [(4, .int (x.2.1 + (1 : Int32))), (0, .ref 102), (1, .ref q), (2, .int y2), (3, .int x.1)] (by decide) rfl (congrArg (fun t => x.2.1 + t) (by decide)) rfl dX12_typesOn_75 ?_
      refine q_goto 5 (by decide) dX12_typesOn_78 ?_
      refine q_sub [1, 2, 3, 4, 0] rfl ?_
      cases h
      exact hQ
theorem lX12_typesOn_5 {g : QG} {Q : Option Value → QS → Prop} {q : Nat} {y2 : Int32} {r : Bool × QS} (hq : q_qok q) (hQ : Q (some (.int (q_b r.1))) r.2) : ∀ (c : Nat) (x : Int32 × Int32 × QS), q_Wire x.2.2 → q_it (tX12_typesOn_5 q y2) c x = some r → q_L g mX12_typesOn 4 0 0 Q 0 0 5 [(0, .ref 102), (1, .ref q), (2, .int y2), (3, .int x.1), (4, .int x.2.1)] [] x.2.2 := by
  intro c
  induction c with
  | zero => intro x w h; cases h
  | succ c ih =>
    intro x w h
    simp only [q_it] at h
    cases hz : tX12_typesOn_5 q y2 x with
    | none => rw [hz] at h; cases h
    | some z =>
      rw [hz] at h
      refine sX12_typesOn_5 w hq hz ?_
      rcases z with z | y
      · cases h; exact hQ
      · have fz := fxtX12_typesOn_5 hz; exact ih y (w.fx fz) h
theorem kX12_typesOn_5 {S : QS} {g : QG} {Q : Option Value → QS → Prop} {q : Nat} {y2 : Int32} {y3 : Int32} {y4 : Int32} {r : Bool × QS} (w : q_Wire S) (hq : q_qok q) (h : fX12_typesOn_5 S q y2 y3 y4 = some r) (hQ : Q (some (.int (q_b r.1))) r.2) : q_L g mX12_typesOn 4 0 0 Q 0 0 5 [(0, .ref 102), (1, .ref q), (2, .int y2), (3, .int y3), (4, .int y4)] [] S := by
  obtain ⟨c, hc⟩ := q_run_it h
  exact lX12_typesOn_5 hq hQ c (y3, y4, S) w hc
set_option maxRecDepth 20000 in
theorem kX12_typesOn {S : QS} {g : QG} {Q : Option Value → QS → Prop} {q : Nat} {x2 : Int32} {r : Bool × QS} (w : q_Wire S) (hq : q_qok q) (h : fX12_typesOn S q x2 = some r) (hQ : Q (some (.int (q_b r.1))) r.2) : q_M g mX12_typesOn 4 0 0 [.ref 102, .ref q, .int x2] S Q := by
  unfold fX12_typesOn at h
  show q_L g mX12_typesOn 4 0 0 Q 0 0 0 [(0, .ref 102), (1, .ref q), (2, .int x2)] [] S
  refine q_iconst (v := (0 : Int32)) (by decide) dX12_typesOn_0 ?_
  refine q_istore_n [(3, .int (0 : Int32)), (0, .ref 102), (1, .ref q), (2, .int x2)] rfl (by decide) rfl dX12_typesOn_1 ?_
  refine q_iconst (v := (0 : Int32)) (by decide) dX12_typesOn_2 ?_
  refine q_istore [(4, .int (0 : Int32)), (3, .int (0 : Int32)), (0, .ref 102), (1, .ref q), (2, .int x2)] (by decide) rfl dX12_typesOn_3 ?_
  refine q_sub [2, 3, 4, 1, 0] rfl ?_
  exact kX12_typesOn_5 w hq h hQ
set_option maxRecDepth 20000 in
theorem kX12_isElement {S : QS} {g : QG} {Q : Option Value → QS → Prop} {q : Nat} {x1 : Int32} {x2 : Int32} {r : Bool} (w : q_Wire S) (hq : q_qok q) (h : fX12_isElement S q x1 x2 = some r) (hQ : Q (some (.int (q_b r))) S) : q_M g mX12_isElement 2 0 0 [.ref q, .int x1, .int x2] S Q := by
  unfold fX12_isElement at h
  show q_L g mX12_isElement 2 0 0 Q 0 0 0 [(0, .ref q), (1, .int x1), (2, .int x2)] [] S
  refine q_iload_n 1 rfl rfl dX12_isElement_0 ?_
  refine q_iconst (v := (1 : Int32)) (by decide) dX12_isElement_1 ?_
  refine q_icmp_ne 16 (by decide) dX12_isElement_2 (fun c => ?_) (fun c => ?_)
  · rw [if_neg c] at h
    refine q_iload_n 1 rfl rfl dX12_isElement_16 ?_
    obtain ⟨r1, e2, h⟩ := q_bind h
    refine q_callS (d := 1) (Mc := mX12_isArrayType) (kc := 0) (nc := 0) [.int x1] okX12_isArrayType lmX12_476 inX12_isArrayType rfl (Nat.le_of_ble_eq_true rfl) (Nat.le_of_ble_eq_true rfl) (Nat.le_refl _) (Nat.le_refl _) dX12_isElement_17 (q_L.deep (by decide) (kX12_isArrayType (Q := fun r S' => r = some (.int (q_b r1)) ∧ S' = S) w e2 ⟨rfl, rfl⟩)) (q_kI ?_)
    refine q_if_eq 39 (by decide) dX12_isElement_20 (fun c => ?_) (fun c => ?_)
    · have c := q_b_0.mp c; rw [q_if0 c] at h
      refine q_iconst (v := (0 : Int32)) (by decide) dX12_isElement_39 ?_
      obtain rfl := Option.some.inj h
      exact q_iret rfl (by decide) dX12_isElement_40 hQ
    · have c := q_b_n.mp c; rw [q_if1 c] at h
      refine q_aload_n 0 rfl rfl dX12_isElement_23 ?_
      refine q_iload_n 2 rfl rfl dX12_isElement_24 ?_
      refine q_iload_n 1 rfl rfl dX12_isElement_25 ?_
      obtain ⟨r3, e4, h⟩ := q_bind h
      refine q_callS (d := 1) (Mc := mX12_elementOf) (kc := 0) (nc := 0) [.int x1] okX12_elementOf lmX12_470 inX12_elementOf rfl (Nat.le_of_ble_eq_true rfl) (Nat.le_of_ble_eq_true rfl) (Nat.le_refl _) (Nat.le_refl _) dX12_isElement_26 (q_L.deep (by decide) (kX12_elementOf (Q := fun r S' => r = some (.int r3) ∧ S' = S) w e4 ⟨rfl, rfl⟩)) (q_kI ?_)
      obtain ⟨r5, e6, h⟩ := q_bind h
      refine q_callS (d := 1) (Mc := mX12_isBelow) (kc := 0) (nc := 0) [.ref q, .int x2, .int r3] okX12_isBelow lmX12_436 inX12_isBelow rfl (Nat.le_of_ble_eq_true rfl) (Nat.le_of_ble_eq_true rfl) (Nat.le_refl _) (Nat.le_refl _) dX12_isElement_29 (q_L.deep (by decide) (kX12_isBelow (Q := fun r S' => r = some (.int (q_b r5)) ∧ S' = S) w hq e6 ⟨rfl, rfl⟩)) (q_kI ?_)
      refine q_if_eq 39 (by decide) dX12_isElement_32 (fun c => ?_) (fun c => ?_)
      · have c := q_b_0.mp c; rw [q_if0 c] at h
        refine q_iconst (v := (0 : Int32)) (by decide) dX12_isElement_39 ?_
        obtain rfl := Option.some.inj h
        exact q_iret rfl (by decide) dX12_isElement_40 hQ
      · have c := q_b_n.mp c; rw [q_if1 c] at h
        refine q_iconst (v := (1 : Int32)) (by decide) dX12_isElement_35 ?_
        refine q_goto 40 (by decide) dX12_isElement_36 ?_
        obtain rfl := Option.some.inj h
        exact q_iret rfl (by decide) dX12_isElement_40 hQ
  · rw [if_pos c] at h
    refine q_iload_n 2 rfl rfl dX12_isElement_5 ?_
    refine q_iconst (v := (2 : Int32)) (by decide) dX12_isElement_6 ?_
    refine q_icmp_eq 14 (by decide) dX12_isElement_7 (fun c => ?_) (fun c => ?_)
    · rw [if_pos c] at h
      refine q_iconst (v := (0 : Int32)) (by decide) dX12_isElement_14 ?_
      obtain rfl := Option.some.inj h
      exact q_iret rfl (by decide) dX12_isElement_15 hQ
    · rw [if_neg c] at h
      refine q_iconst (v := (1 : Int32)) (by decide) dX12_isElement_10 ?_
      refine q_goto 15 (by decide) dX12_isElement_11 ?_
      obtain rfl := Option.some.inj h
      exact q_iret rfl (by decide) dX12_isElement_15 hQ
