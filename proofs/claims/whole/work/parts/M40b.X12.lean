set_option maxRecDepth 20000 in
theorem kX12_isType {S : QS} {g : QG} {Q : Option Value → QS → Prop}  {x1 : Int32} {r : Bool} (w : q_Wire S) (h : fX12_isType S x1 = some r) (hQ : Q (some (.int (q_b r))) S) : q_M g mX12_isType 1 0 0 [.ref 102, .int x1] S Q := by
  unfold fX12_isType at h
  show q_L g mX12_isType 1 0 0 Q 0 0 0 [(0, .ref 102), (1, .int x1)] [] S
  refine q_iload_n 1 rfl rfl dX12_isType_0 ?_
  refine q_aload_n 0 rfl rfl dX12_isType_1 ?_
  refine q_getI (q_sh102 w) (by decide) (by decide) rfl lfX12_118 dX12_isType_2 ?_
  refine q_icmp_lt 10 (by decide) dX12_isType_5 (fun c => ?_) (fun c => ?_)
  · rw [if_pos c] at h
    refine q_aload_n 0 rfl rfl dX12_isType_10 ?_
    refine q_iload_n 1 rfl rfl dX12_isType_11 ?_
    obtain ⟨r1, e2, h⟩ := q_bind h
    refine q_callV (ci := 12) (d := 0) (Mc := mX12_isArray) (kc := 0) (nc := 0) [.int x1] okX12_isArray (q_sh102 w) (by decide) rfl lmX12_138 inX12_isArray seX12_isArray rfl (Nat.le_of_ble_eq_true rfl) (Nat.le_of_ble_eq_true rfl) (Nat.le_refl _) (Nat.le_refl _) dX12_isType_12 (q_L.deep (by decide) (kX12_isArray (Q := fun r S' => r = some (.int (q_b r1)) ∧ S' = S) w e2 ⟨rfl, rfl⟩)) (q_kI ?_)
    obtain ⟨v5, hv, h⟩ := q_bind h
    have K1 : q_L g mX12_isType 1 0 0 Q 0 0 35 [(0, .ref 102), (1, .int x1)] [.int v5] S := by
      refine q_istore_n [(2, .int v5), (0, .ref 102), (1, .int x1)] rfl (by decide) rfl dX12_isType_35 ?_
      refine q_iload_n 0 rfl rfl dX12_isType_36 ?_
      refine q_aload_n 1 rfl rfl dX12_isType_37 ?_
      refine q_getR (q_sh102 w) (by decide) (by decide) rfl lfX12_26 dX12_isType_38 (r := 161) (q_wr102_8 w) ?_
      refine q_iload_n 2 rfl rfl dX12_isType_41 ?_
      obtain ⟨hg6, h⟩ := q_guard h
      refine q_iald (q_sh161 w) (q_inb_in hg6) dX12_isType_42 ?_
      refine q_isub dX12_isType_43 ?_
      refine q_iconst (v := (3 : Int32)) (by decide) dX12_isType_44 ?_
      obtain ⟨v10, hv, h⟩ := q_bind h
      have K2 : q_L g mX12_isType 1 0 0 Q 0 0 92 [(0, .ref 102), (1, .int x1), (2, .int v5)] [.int (q_b v10)] S := by
        refine q_istore_n [(3, .int (q_b v10)), (0, .ref 102), (1, .int x1), (2, .int v5)] rfl (by decide) rfl dX12_isType_92 ?_
        refine q_iload_n 0 rfl rfl dX12_isType_93 ?_
        refine q_if_ne 115 (by decide) dX12_isType_94 (fun c => ?_) (fun c => ?_)
        · have c := q_b_n.mp c; rw [q_if1 c] at h
          refine q_iconst (v := (1 : Int32)) (by decide) dX12_isType_115 ?_
          refine q_goto 120 (by decide) dX12_isType_116 ?_
          obtain rfl := Option.some.inj h
          exact q_iret rfl (by decide) dX12_isType_120 hQ
        · have c := q_b_0.mp c; rw [q_if0 c] at h
          refine q_aload_n 1 rfl rfl dX12_isType_97 ?_
          refine q_aload_n 1 rfl rfl dX12_isType_98 ?_
          refine q_getR (q_sh102 w) (by decide) (by decide) rfl lfX12_26 dX12_isType_99 (r := 161) (q_wr102_8 w) ?_
          refine q_iload_n 2 rfl rfl dX12_isType_102 ?_
          obtain ⟨hg11, h⟩ := q_guard h
          refine q_iald (q_sh161 w) (q_inb_in hg11) dX12_isType_103 ?_
          refine q_iload_n 3 rfl rfl dX12_isType_104 ?_
          refine q_bipush (v := (65 : Int32)) (by decide) dX12_isType_105 ?_
          refine q_bipush (v := (90 : Int32)) (by decide) dX12_isType_107 ?_
          obtain ⟨r12, e13, h⟩ := q_bind h
          refine q_callV (ci := 12) (d := 0) (Mc := mX12_isName) (kc := 0) (nc := 0) [.int (S.2.1 161 x1.toNatClampNeg), .int v5, .int (65 : Int32), .int (90 : Int32)] okX12_isName (q_sh102 w) (by decide) rfl lmX12_135 inX12_isName seX12_isName rfl (Nat.le_of_ble_eq_true rfl) (Nat.le_of_ble_eq_true rfl) (Nat.le_refl _) (Nat.le_refl _) dX12_isType_109 (q_L.deep (by decide) (kX12_isName (Q := fun r S' => r = some (.int (q_b r12)) ∧ S' = S) w e13 ⟨rfl, rfl⟩)) (q_kI ?_)
          refine q_if_eq 119 (by decide) dX12_isType_112 (fun c => ?_) (fun c => ?_)
          · have c := q_b_0.mp c; rw [q_if0 c] at h
            refine q_iconst (v := (0 : Int32)) (by decide) dX12_isType_119 ?_
            obtain rfl := Option.some.inj h
            exact q_iret rfl (by decide) dX12_isType_120 hQ
          · have c := q_b_n.mp c; rw [q_if1 c] at h
            refine q_iconst (v := (1 : Int32)) (by decide) dX12_isType_115 ?_
            refine q_goto 120 (by decide) dX12_isType_116 ?_
            obtain rfl := Option.some.inj h
            exact q_iret rfl (by decide) dX12_isType_120 hQ
      replace h := hv
      refine q_icmp_ne 91 (by decide) dX12_isType_45 (fun c => ?_) (fun c => ?_)
      · rw [if_neg c] at h
        refine q_iconst (v := (0 : Int32)) (by decide) dX12_isType_91 ?_
        obtain rfl := Option.some.inj h
        refine q_sub [1, 2, 0] rfl ?_
        exact K2
      · rw [if_pos c] at h
        refine q_aload_n 1 rfl rfl dX12_isType_48 ?_
        refine q_getR (q_sh102 w) (by decide) (by decide) rfl lfX12_23 dX12_isType_49 (r := 160) (q_wr102_6 w) ?_
        refine q_iload_n 0 rfl rfl dX12_isType_52 ?_
        refine q_iconst (v := (3 : Int32)) (by decide) dX12_isType_53 ?_
        refine q_isub dX12_isType_54 ?_
        obtain ⟨hg7, h⟩ := q_guard h
        refine q_bald (q_sh160 w) (q_inb_in hg7) dX12_isType_55 ?_
        refine q_bipush (v := (105 : Int32)) (by decide) dX12_isType_56 ?_
        refine q_icmp_ne 91 (by decide) dX12_isType_58 (fun c => ?_) (fun c => ?_)
        · rw [if_neg c] at h
          refine q_iconst (v := (0 : Int32)) (by decide) dX12_isType_91 ?_
          obtain rfl := Option.some.inj h
          refine q_sub [1, 2, 0] rfl ?_
          exact K2
        · rw [if_pos c] at h
          refine q_aload_n 1 rfl rfl dX12_isType_61 ?_
          refine q_getR (q_sh102 w) (by decide) (by decide) rfl lfX12_23 dX12_isType_62 (r := 160) (q_wr102_6 w) ?_
          refine q_iload_n 0 rfl rfl dX12_isType_65 ?_
          refine q_iconst (v := (2 : Int32)) (by decide) dX12_isType_66 ?_
          refine q_isub dX12_isType_67 ?_
          obtain ⟨hg8, h⟩ := q_guard h
          refine q_bald (q_sh160 w) (q_inb_in hg8) dX12_isType_68 ?_
          refine q_bipush (v := (110 : Int32)) (by decide) dX12_isType_69 ?_
          refine q_icmp_ne 91 (by decide) dX12_isType_71 (fun c => ?_) (fun c => ?_)
          · rw [if_neg c] at h
            refine q_iconst (v := (0 : Int32)) (by decide) dX12_isType_91 ?_
            obtain rfl := Option.some.inj h
            refine q_sub [1, 2, 0] rfl ?_
            exact K2
          · rw [if_pos c] at h
            refine q_aload_n 1 rfl rfl dX12_isType_74 ?_
            refine q_getR (q_sh102 w) (by decide) (by decide) rfl lfX12_23 dX12_isType_75 (r := 160) (q_wr102_6 w) ?_
            refine q_iload_n 0 rfl rfl dX12_isType_78 ?_
            refine q_iconst (v := (1 : Int32)) (by decide) dX12_isType_79 ?_
            refine q_isub dX12_isType_80 ?_
            obtain ⟨hg9, h⟩ := q_guard h
            refine q_bald (q_sh160 w) (q_inb_in hg9) dX12_isType_81 ?_
            refine q_bipush (v := (116 : Int32)) (by decide) dX12_isType_82 ?_
            refine q_icmp_ne 91 (by decide) dX12_isType_84 (fun c => ?_) (fun c => ?_)
            · rw [if_neg c] at h
              refine q_iconst (v := (0 : Int32)) (by decide) dX12_isType_91 ?_
              obtain rfl := Option.some.inj h
              refine q_sub [1, 2, 0] rfl ?_
              exact K2
            · rw [if_pos c] at h
              refine q_iconst (v := (1 : Int32)) (by decide) dX12_isType_87 ?_
              refine q_goto 92 (by decide) dX12_isType_88 ?_
              obtain rfl := Option.some.inj h
              refine q_sub [1, 2, 0] rfl ?_
              exact K2
    replace h := hv
    refine q_if_eq 29 (by decide) dX12_isType_15 (fun c => ?_) (fun c => ?_)
    · have c := q_b_0.mp c; rw [q_if0 c] at h
      refine q_aload_n 0 rfl rfl dX12_isType_29 ?_
      refine q_getR (q_sh102 w) (by decide) (by decide) rfl lfX12_30 dX12_isType_30 (r := 162) (q_wr102_9 w) ?_
      refine q_iload_n 1 rfl rfl dX12_isType_33 ?_
      obtain ⟨hg3, h⟩ := q_guard h
      refine q_iald (q_sh162 w) (q_inb_in hg3) dX12_isType_34 ?_
      obtain rfl := Option.some.inj h
      refine q_sub [0, 1] rfl ?_
      exact K1
    · have c := q_b_n.mp c; rw [q_if1 c] at h
      refine q_aload_n 0 rfl rfl dX12_isType_18 ?_
      refine q_getR (q_sh102 w) (by decide) (by decide) rfl lfX12_30 dX12_isType_19 (r := 162) (q_wr102_9 w) ?_
      refine q_iload_n 1 rfl rfl dX12_isType_22 ?_
      obtain ⟨hg4, h⟩ := q_guard h
      refine q_iald (q_sh162 w) (q_inb_in hg4) dX12_isType_23 ?_
      refine q_iconst (v := (2 : Int32)) (by decide) dX12_isType_24 ?_
      refine q_isub dX12_isType_25 ?_
      refine q_goto 35 (by decide) dX12_isType_26 ?_
      obtain rfl := Option.some.inj h
      refine q_sub [0, 1] rfl ?_
      exact K1
  · rw [if_neg c] at h
    refine q_iconst (v := (0 : Int32)) (by decide) dX12_isType_8 ?_
    obtain rfl := Option.some.inj h
    exact q_iret rfl (by decide) dX12_isType_9 hQ
set_option maxRecDepth 20000 in
theorem sX12_point_7 {S : QS} {g : QG} {Q : Option Value → QS → Prop}  {y1 : Int32} {x : Int32} {z : (Int32) ⊕ (Int32)} (w : q_Wire S) (h : tX12_point_7 S y1 x = some z) (hQ : (Sum.elim (fun r0 : Int32 => Q (some (.int r0)) S) (fun y : Int32 => q_L g mX12_point 0 0 0 Q 0 0 7 [(0, .ref 102), (1, .int y1), (2, .int y)] [] S) z)) : q_L g mX12_point 0 0 0 Q 0 0 7 [(0, .ref 102), (1, .int y1), (2, .int x)] [] S := by
  unfold tX12_point_7 at h
  refine q_iload_n 2 rfl rfl dX12_point_7 ?_
  refine q_aload_n 0 rfl rfl dX12_point_8 ?_
  refine q_getR (q_sh102 w) (by decide) (by decide) rfl lfX12_30 dX12_point_9 (r := 162) (q_wr102_9 w) ?_
  refine q_iload_n 1 rfl rfl dX12_point_12 ?_
  obtain ⟨hg1, h⟩ := q_guard h
  refine q_iald (q_sh162 w) (q_inb_in hg1) dX12_point_13 ?_
  refine q_icmp_ge 34 (by decide) dX12_point_14 (fun c => ?_) (fun c => ?_)
  · rw [if_pos c] at h
    refine q_iload_n 2 rfl rfl dX12_point_34 ?_
    cases h
    exact q_iret rfl rfl dX12_point_35 hQ
  · rw [if_neg c] at h
    refine q_aload_n 0 rfl rfl dX12_point_17 ?_
    refine q_getR (q_sh102 w) (by decide) (by decide) rfl lfX12_23 dX12_point_18 (r := 160) (q_wr102_6 w) ?_
    refine q_iload_n 2 rfl rfl dX12_point_21 ?_
    obtain ⟨hg2, h⟩ := q_guard h
    refine q_bald (q_sh160 w) (q_inb_in hg2) dX12_point_22 ?_
    refine q_bipush (v := (46 : Int32)) (by decide) dX12_point_23 ?_
    refine q_icmp_eq 34 (by decide) dX12_point_25 (fun c => ?_) (fun c => ?_)
    · rw [if_pos c] at h
      refine q_iload_n 2 rfl rfl dX12_point_34 ?_
      cases h
      exact q_iret rfl rfl dX12_point_35 hQ
    · rw [if_neg c] at h
      refine q_iinc (v := (x + (1 : Int32))) 2 [(2, .int (x + (1 : Int32))), (0, .ref 102), (1, .int y1)] (by decide) rfl (congrArg (fun t => x + t) (by decide)) rfl dX12_point_28 ?_
      refine q_goto 7 (by decide) dX12_point_31 ?_
      refine q_sub [1, 2, 0] rfl ?_
      cases h
      exact hQ
theorem lX12_point_7 {S : QS} {g : QG} {Q : Option Value → QS → Prop}  {y1 : Int32} {r : Int32} (w : q_Wire S) (hQ : Q (some (.int r)) S) : ∀ (c : Nat) (x : Int32), q_it (tX12_point_7 S y1) c x = some r → q_L g mX12_point 0 0 0 Q 0 0 7 [(0, .ref 102), (1, .int y1), (2, .int x)] [] S := by
  intro c
  induction c with
  | zero => intro x  h; cases h
  | succ c ih =>
    intro x  h
    simp only [q_it] at h
    cases hz : tX12_point_7 S y1 x with
    | none => rw [hz] at h; cases h
    | some z =>
      rw [hz] at h
      refine sX12_point_7 w hz ?_
      rcases z with z | y
      · cases h; exact hQ
      · exact ih y  h
theorem kX12_point_7 {S : QS} {g : QG} {Q : Option Value → QS → Prop}  {y1 : Int32} {y2 : Int32} {r : Int32} (w : q_Wire S) (h : fX12_point_7 S y1 y2 = some r) (hQ : Q (some (.int r)) S) : q_L g mX12_point 0 0 0 Q 0 0 7 [(0, .ref 102), (1, .int y1), (2, .int y2)] [] S := by
  obtain ⟨c, hc⟩ := q_run_it h
  exact lX12_point_7 w hQ c y2  hc
set_option maxRecDepth 20000 in
theorem kX12_point {S : QS} {g : QG} {Q : Option Value → QS → Prop}  {x1 : Int32} {r : Int32} (w : q_Wire S) (h : fX12_point S x1 = some r) (hQ : Q (some (.int r)) S) : q_M g mX12_point 0 0 0 [.ref 102, .int x1] S Q := by
  unfold fX12_point at h
  show q_L g mX12_point 0 0 0 Q 0 0 0 [(0, .ref 102), (1, .int x1)] [] S
  refine q_aload_n 0 rfl rfl dX12_point_0 ?_
  refine q_getR (q_sh102 w) (by decide) (by decide) rfl lfX12_26 dX12_point_1 (r := 161) (q_wr102_8 w) ?_
  refine q_iload_n 1 rfl rfl dX12_point_4 ?_
  obtain ⟨hg3, h⟩ := q_guard h
  refine q_iald (q_sh161 w) (q_inb_in hg3) dX12_point_5 ?_
  refine q_istore_n [(2, .int (S.2.1 161 x1.toNatClampNeg)), (0, .ref 102), (1, .int x1)] rfl (by decide) rfl dX12_point_6 ?_
  refine q_sub [1, 2, 0] rfl ?_
  exact kX12_point_7 w h hQ
set_option maxRecDepth 20000 in
theorem kX12_isReference {S : QS} {g : QG} {Q : Option Value → QS → Prop}  {x1 : Int32} {r : Bool} (w : q_Wire S) (h : fX12_isReference S x1 = some r) (hQ : Q (some (.int (q_b r))) S) : q_M g mX12_isReference 1 0 0 [.ref 102, .int x1] S Q := by
  unfold fX12_isReference at h
  show q_L g mX12_isReference 1 0 0 Q 0 0 0 [(0, .ref 102), (1, .int x1)] [] S
  refine q_iload_n 1 rfl rfl dX12_isReference_0 ?_
  refine q_aload_n 0 rfl rfl dX12_isReference_1 ?_
  refine q_getI (q_sh102 w) (by decide) (by decide) rfl lfX12_118 dX12_isReference_2 ?_
  refine q_icmp_lt 10 (by decide) dX12_isReference_5 (fun c => ?_) (fun c => ?_)
  · rw [if_pos c] at h
    refine q_aload_n 0 rfl rfl dX12_isReference_10 ?_
    refine q_iload_n 1 rfl rfl dX12_isReference_11 ?_
    obtain ⟨r1, e2, h⟩ := q_bind h
    refine q_callV (ci := 12) (d := 0) (Mc := mX12_point) (kc := 0) (nc := 0) [.int x1] okX12_point (q_sh102 w) (by decide) rfl lmX12_142 inX12_point seX12_point rfl (Nat.le_of_ble_eq_true rfl) (Nat.le_of_ble_eq_true rfl) (Nat.le_refl _) (Nat.le_refl _) dX12_isReference_12 (q_L.deep (by decide) (kX12_point (Q := fun r S' => r = some (.int r1) ∧ S' = S) w e2 ⟨rfl, rfl⟩)) (q_kI ?_)
    refine q_istore_n [(2, .int r1), (0, .ref 102), (1, .int x1)] rfl (by decide) rfl dX12_isReference_15 ?_
    refine q_aload_n 1 rfl rfl dX12_isReference_16 ?_
    refine q_aload_n 1 rfl rfl dX12_isReference_17 ?_
    refine q_getR (q_sh102 w) (by decide) (by decide) rfl lfX12_26 dX12_isReference_18 (r := 161) (q_wr102_8 w) ?_
    refine q_iload_n 2 rfl rfl dX12_isReference_21 ?_
    obtain ⟨hg3, h⟩ := q_guard h
    refine q_iald (q_sh161 w) (q_inb_in hg3) dX12_isReference_22 ?_
    refine q_iload_n 0 rfl rfl dX12_isReference_23 ?_
    refine q_bipush (v := (65 : Int32)) (by decide) dX12_isReference_24 ?_
    refine q_bipush (v := (90 : Int32)) (by decide) dX12_isReference_26 ?_
    obtain ⟨r4, e5, h⟩ := q_bind h
    refine q_callV (ci := 12) (d := 0) (Mc := mX12_isName) (kc := 0) (nc := 0) [.int (S.2.1 161 x1.toNatClampNeg), .int r1, .int (65 : Int32), .int (90 : Int32)] okX12_isName (q_sh102 w) (by decide) rfl lmX12_135 inX12_isName seX12_isName rfl (Nat.le_of_ble_eq_true rfl) (Nat.le_of_ble_eq_true rfl) (Nat.le_refl _) (Nat.le_refl _) dX12_isReference_28 (q_L.deep (by decide) (kX12_isName (Q := fun r S' => r = some (.int (q_b r4)) ∧ S' = S) w e5 ⟨rfl, rfl⟩)) (q_kI ?_)
    refine q_if_eq 58 (by decide) dX12_isReference_31 (fun c => ?_) (fun c => ?_)
    · have c := q_b_0.mp c; rw [q_if0 c] at h
      refine q_iconst (v := (0 : Int32)) (by decide) dX12_isReference_58 ?_
      obtain rfl := Option.some.inj h
      exact q_iret rfl (by decide) dX12_isReference_59 hQ
    · have c := q_b_n.mp c; rw [q_if1 c] at h
      refine q_aload_n 1 rfl rfl dX12_isReference_34 ?_
      refine q_iload_n 0 rfl rfl dX12_isReference_35 ?_
      refine q_iconst (v := (1 : Int32)) (by decide) dX12_isReference_36 ?_
      refine q_iadd dX12_isReference_37 ?_
      refine q_aload_n 1 rfl rfl dX12_isReference_38 ?_
      refine q_getR (q_sh102 w) (by decide) (by decide) rfl lfX12_30 dX12_isReference_39 (r := 162) (q_wr102_9 w) ?_
      refine q_iload_n 2 rfl rfl dX12_isReference_42 ?_
      obtain ⟨hg6, h⟩ := q_guard h
      refine q_iald (q_sh162 w) (q_inb_in hg6) dX12_isReference_43 ?_
      refine q_bipush (v := (97 : Int32)) (by decide) dX12_isReference_44 ?_
      refine q_bipush (v := (122 : Int32)) (by decide) dX12_isReference_46 ?_
      obtain ⟨r7, e8, h⟩ := q_bind h
      refine q_callV (ci := 12) (d := 0) (Mc := mX12_isName) (kc := 0) (nc := 0) [.int (r1 + (1 : Int32)), .int (S.2.1 162 x1.toNatClampNeg), .int (97 : Int32), .int (122 : Int32)] okX12_isName (q_sh102 w) (by decide) rfl lmX12_135 inX12_isName seX12_isName rfl (Nat.le_of_ble_eq_true rfl) (Nat.le_of_ble_eq_true rfl) (Nat.le_refl _) (Nat.le_refl _) dX12_isReference_48 (q_L.deep (by decide) (kX12_isName (Q := fun r S' => r = some (.int (q_b r7)) ∧ S' = S) w e8 ⟨rfl, rfl⟩)) (q_kI ?_)
      refine q_if_eq 58 (by decide) dX12_isReference_51 (fun c => ?_) (fun c => ?_)
      · have c := q_b_0.mp c; rw [q_if0 c] at h
        refine q_iconst (v := (0 : Int32)) (by decide) dX12_isReference_58 ?_
        obtain rfl := Option.some.inj h
        exact q_iret rfl (by decide) dX12_isReference_59 hQ
      · have c := q_b_n.mp c; rw [q_if1 c] at h
        refine q_iconst (v := (1 : Int32)) (by decide) dX12_isReference_54 ?_
        refine q_goto 59 (by decide) dX12_isReference_55 ?_
        obtain rfl := Option.some.inj h
        exact q_iret rfl (by decide) dX12_isReference_59 hQ
  · rw [if_neg c] at h
    refine q_iconst (v := (0 : Int32)) (by decide) dX12_isReference_8 ?_
    obtain rfl := Option.some.inj h
    exact q_iret rfl (by decide) dX12_isReference_9 hQ
set_option maxRecDepth 20000 in
theorem sX12_number_47 {S : QS} {g : QG} {Q : Option Value → QS → Prop}  {y1 : Int32} {y2 : Int32} {x : Int64 × Int32} {z : (Int64) ⊕ (Int64 × Int32)} (w : q_Wire S) (h : tX12_number_47 S y1 y2 x = some z) (hQ : (Sum.elim (fun r0 : Int64 => Q (some (.long r0)) S) (fun y : Int64 × Int32 => q_L g mX12_number 0 0 0 Q 0 0 47 [(0, .ref 102), (1, .int y1), (2, .int y2), (3, .long y.1), (5, .int y.2)] [] S) z)) : q_L g mX12_number 0 0 0 Q 0 0 47 [(0, .ref 102), (1, .int y1), (2, .int y2), (3, .long x.1), (5, .int x.2)] [] S := by
  unfold tX12_number_47 at h
  refine q_iload 4 rfl dX12_number_47 ?_
  refine q_aload_n 0 rfl rfl dX12_number_49 ?_
  refine q_getR (q_sh102 w) (by decide) (by decide) rfl lfX12_30 dX12_number_50 (r := 162) (q_wr102_9 w) ?_
  refine q_iload_n 1 rfl rfl dX12_number_53 ?_
  obtain ⟨hg1, h⟩ := q_guard h
  refine q_iald (q_sh162 w) (q_inb_in hg1) dX12_number_54 ?_
  refine q_icmp_ge 83 (by decide) dX12_number_55 (fun c => ?_) (fun c => ?_)
  · rw [if_pos c] at h
    refine q_iload_n 2 rfl rfl dX12_number_83 ?_
    refine q_if_eq 92 (by decide) dX12_number_84 (fun c => ?_) (fun c => ?_)
    · rw [if_pos c] at h
      refine q_lload_n 3 rfl rfl dX12_number_92 ?_
      cases h
      exact q_lret rfl dX12_number_93 hQ
    · rw [if_neg c] at h
      refine q_lload_n 3 rfl rfl dX12_number_87 ?_
      refine q_lneg dX12_number_88 ?_
      refine q_goto 93 (by decide) dX12_number_89 ?_
      cases h
      exact q_lret rfl dX12_number_93 hQ
  · rw [if_neg c] at h
    refine q_ldc2 lkX12_154 dX12_number_58 ?_
    refine q_lload_n 3 rfl rfl dX12_number_61 ?_
    refine q_lmul dX12_number_62 ?_
    refine q_aload_n 0 rfl rfl dX12_number_63 ?_
    refine q_getR (q_sh102 w) (by decide) (by decide) rfl lfX12_23 dX12_number_64 (r := 160) (q_wr102_6 w) ?_
    refine q_iload 4 rfl dX12_number_67 ?_
    obtain ⟨hg2, h⟩ := q_guard h
    refine q_bald (q_sh160 w) (q_inb_in hg2) dX12_number_69 ?_
    refine q_i2l dX12_number_70 ?_
    refine q_ladd dX12_number_71 ?_
    refine q_ldc2 lkX12_156 dX12_number_72 ?_
    refine q_lsub dX12_number_75 ?_
    refine q_lstore_n [(3, .long ((((10 : Int64) * x.1) + (S.2.1 160 x.2.toNatClampNeg).toInt64) - (48 : Int64))), (0, .ref 102), (1, .int y1), (2, .int y2), (5, .int x.2)] rfl (by decide) rfl dX12_number_76 ?_
    refine q_iinc (v := (x.2 + (1 : Int32))) 4 [(5, .int (x.2 + (1 : Int32))), (3, .long ((((10 : Int64) * x.1) + (S.2.1 160 x.2.toNatClampNeg).toInt64) - (48 : Int64))), (0, .ref 102), (1, .int y1), (2, .int y2)] (by decide) rfl (congrArg (fun t => x.2 + t) (by decide)) rfl dX12_number_77 ?_
    refine q_goto 47 (by decide) dX12_number_80 ?_
    refine q_sub [2, 3, 4, 1, 0] rfl ?_
    cases h
    exact hQ
theorem lX12_number_47 {S : QS} {g : QG} {Q : Option Value → QS → Prop}  {y1 : Int32} {y2 : Int32} {r : Int64} (w : q_Wire S) (hQ : Q (some (.long r)) S) : ∀ (c : Nat) (x : Int64 × Int32), q_it (tX12_number_47 S y1 y2) c x = some r → q_L g mX12_number 0 0 0 Q 0 0 47 [(0, .ref 102), (1, .int y1), (2, .int y2), (3, .long x.1), (5, .int x.2)] [] S := by
  intro c
  induction c with
  | zero => intro x  h; cases h
  | succ c ih =>
    intro x  h
    simp only [q_it] at h
    cases hz : tX12_number_47 S y1 y2 x with
    | none => rw [hz] at h; cases h
    | some z =>
      rw [hz] at h
      refine sX12_number_47 w hz ?_
      rcases z with z | y
      · cases h; exact hQ
      · exact ih y  h
theorem kX12_number_47 {S : QS} {g : QG} {Q : Option Value → QS → Prop}  {y1 : Int32} {y2 : Int32} {y3 : Int64} {y5 : Int32} {r : Int64} (w : q_Wire S) (h : fX12_number_47 S y1 y2 y3 y5 = some r) (hQ : Q (some (.long r)) S) : q_L g mX12_number 0 0 0 Q 0 0 47 [(0, .ref 102), (1, .int y1), (2, .int y2), (3, .long y3), (5, .int y5)] [] S := by
  obtain ⟨c, hc⟩ := q_run_it h
  exact lX12_number_47 w hQ c (y3, y5)  hc
set_option maxRecDepth 20000 in
theorem kX12_number {S : QS} {g : QG} {Q : Option Value → QS → Prop}  {x1 : Int32} {r : Int64} (w : q_Wire S) (h : fX12_number S x1 = some r) (hQ : Q (some (.long r)) S) : q_M g mX12_number 0 0 0 [.ref 102, .int x1] S Q := by
  unfold fX12_number at h
  show q_L g mX12_number 0 0 0 Q 0 0 0 [(0, .ref 102), (1, .int x1)] [] S
  refine q_aload_n 0 rfl rfl dX12_number_0 ?_
  refine q_getR (q_sh102 w) (by decide) (by decide) rfl lfX12_23 dX12_number_1 (r := 160) (q_wr102_6 w) ?_
  refine q_aload_n 0 rfl rfl dX12_number_4 ?_
  refine q_getR (q_sh102 w) (by decide) (by decide) rfl lfX12_26 dX12_number_5 (r := 161) (q_wr102_8 w) ?_
  refine q_iload_n 1 rfl rfl dX12_number_8 ?_
  obtain ⟨hg3, h⟩ := q_guard h
  refine q_iald (q_sh161 w) (q_inb_in hg3) dX12_number_9 ?_
  obtain ⟨hg4, h⟩ := q_guard h
  refine q_bald (q_sh160 w) (q_inb_in hg4) dX12_number_10 ?_
  refine q_bipush (v := (45 : Int32)) (by decide) dX12_number_11 ?_
  obtain ⟨v5, hv, h⟩ := q_bind h
  have K1 : q_L g mX12_number 0 0 0 Q 0 0 21 [(0, .ref 102), (1, .int x1)] [.int (q_b v5)] S := by
    refine q_istore_n [(2, .int (q_b v5)), (0, .ref 102), (1, .int x1)] rfl (by decide) rfl dX12_number_21 ?_
    refine q_lconst (v := (0 : Int64)) (by decide) dX12_number_22 ?_
    refine q_lstore_n [(3, .long (0 : Int64)), (2, .int (q_b v5)), (0, .ref 102), (1, .int x1)] rfl (by decide) rfl dX12_number_23 ?_
    refine q_iload_n 1 rfl rfl dX12_number_24 ?_
    refine q_if_eq 39 (by decide) dX12_number_25 (fun c => ?_) (fun c => ?_)
    · have c := q_b_0.mp c; rw [q_if0 c] at h
      refine q_aload_n 2 rfl rfl dX12_number_39 ?_
      refine q_getR (q_sh102 w) (by decide) (by decide) rfl lfX12_26 dX12_number_40 (r := 161) (q_wr102_8 w) ?_
      refine q_iload_n 3 rfl rfl dX12_number_43 ?_
      obtain ⟨hg6, h⟩ := q_guard h
      refine q_iald (q_sh161 w) (q_inb_in hg6) dX12_number_44 ?_
      refine q_istore [(5, .int (S.2.1 161 x1.toNatClampNeg)), (3, .long (0 : Int64)), (2, .int (q_b v5)), (0, .ref 102), (1, .int x1)] (by decide) rfl dX12_number_45 ?_
      refine q_sub [3, 4, 2, 1, 0] rfl ?_
      exact kX12_number_47 w h hQ
    · have c := q_b_n.mp c; rw [q_if1 c] at h
      refine q_aload_n 2 rfl rfl dX12_number_28 ?_
      refine q_getR (q_sh102 w) (by decide) (by decide) rfl lfX12_26 dX12_number_29 (r := 161) (q_wr102_8 w) ?_
      refine q_iload_n 3 rfl rfl dX12_number_32 ?_
      obtain ⟨hg7, h⟩ := q_guard h
      refine q_iald (q_sh161 w) (q_inb_in hg7) dX12_number_33 ?_
      refine q_iconst (v := (1 : Int32)) (by decide) dX12_number_34 ?_
      refine q_iadd dX12_number_35 ?_
      refine q_goto 45 (by decide) dX12_number_36 ?_
      refine q_istore [(5, .int ((S.2.1 161 x1.toNatClampNeg) + (1 : Int32))), (3, .long (0 : Int64)), (2, .int (q_b v5)), (0, .ref 102), (1, .int x1)] (by decide) rfl dX12_number_45 ?_
      refine q_sub [3, 4, 2, 1, 0] rfl ?_
      exact kX12_number_47 w h hQ
  replace h := hv
  refine q_icmp_ne 20 (by decide) dX12_number_13 (fun c => ?_) (fun c => ?_)
  · rw [if_neg c] at h
    refine q_iconst (v := (0 : Int32)) (by decide) dX12_number_20 ?_
    obtain rfl := Option.some.inj h
    refine q_sub [0, 1] rfl ?_
    exact K1
  · rw [if_pos c] at h
    refine q_iconst (v := (1 : Int32)) (by decide) dX12_number_16 ?_
    refine q_goto 21 (by decide) dX12_number_17 ?_
    obtain rfl := Option.some.inj h
    refine q_sub [0, 1] rfl ?_
    exact K1
set_option maxRecDepth 20000 in
theorem sX12_isNumber_73 {S : QS} {g : QG} {Q : Option Value → QS → Prop}  {y1 : Int32} {x : Int32} {z : (Bool) ⊕ (Int32)} (w : q_Wire S) (h : tX12_isNumber_73 S y1 x = some z) (hQ : (Sum.elim (fun r0 : Bool => Q (some (.int (q_b r0))) S) (fun y : Int32 => q_L g mX12_isNumber 1 0 0 Q 0 0 73 [(0, .ref 102), (1, .int y1), (3, .int y)] [] S) z)) : q_L g mX12_isNumber 1 0 0 Q 0 0 73 [(0, .ref 102), (1, .int y1), (3, .int x)] [] S := by
  unfold tX12_isNumber_73 at h
  refine q_iload_n 2 rfl rfl dX12_isNumber_73 ?_
  refine q_aload_n 0 rfl rfl dX12_isNumber_74 ?_
  refine q_getR (q_sh102 w) (by decide) (by decide) rfl lfX12_30 dX12_isNumber_75 (r := 162) (q_wr102_9 w) ?_
  refine q_iload_n 1 rfl rfl dX12_isNumber_78 ?_
  obtain ⟨hg1, h⟩ := q_guard h
  refine q_iald (q_sh162 w) (q_inb_in hg1) dX12_isNumber_79 ?_
  refine q_icmp_ge 113 (by decide) dX12_isNumber_80 (fun c => ?_) (fun c => ?_)
  · rw [if_pos c] at h
    refine q_aload_n 0 rfl rfl dX12_isNumber_113 ?_
    refine q_iload_n 1 rfl rfl dX12_isNumber_114 ?_
    obtain ⟨r2, e3, h⟩ := q_bind h
    refine q_callV (ci := 12) (d := 0) (Mc := mX12_number) (kc := 0) (nc := 0) [.int y1] okX12_number (q_sh102 w) (by decide) rfl lmX12_146 inX12_number seX12_number rfl (Nat.le_of_ble_eq_true rfl) (Nat.le_of_ble_eq_true rfl) (Nat.le_refl _) (Nat.le_refl _) dX12_isNumber_115 (q_L.deep (by decide) (kX12_number (Q := fun r S' => r = some (.long r2) ∧ S' = S) w e3 ⟨rfl, rfl⟩)) (q_kJ ?_)
    refine q_lstore_n [(3, .long r2), (0, .ref 102), (1, .int y1)] rfl (by decide) rfl dX12_isNumber_118 ?_
    refine q_lload_n 0 rfl rfl dX12_isNumber_119 ?_
    refine q_ldc2 lkX12_150 dX12_isNumber_120 ?_
    refine q_lcmp dX12_isNumber_123 ?_
    refine q_if_lt 139 (by decide) dX12_isNumber_124 (fun c => ?_) (fun c => ?_)
    · rw [if_pos c] at h
      refine q_iconst (v := (0 : Int32)) (by decide) dX12_isNumber_139 ?_
      cases h
      exact q_iret rfl (by decide) dX12_isNumber_140 hQ
    · rw [if_neg c] at h
      refine q_lload_n 0 rfl rfl dX12_isNumber_127 ?_
      refine q_ldc2 lkX12_152 dX12_isNumber_128 ?_
      refine q_lcmp dX12_isNumber_131 ?_
      refine q_if_gt 139 (by decide) dX12_isNumber_132 (fun c => ?_) (fun c => ?_)
      · rw [if_pos c] at h
        refine q_iconst (v := (0 : Int32)) (by decide) dX12_isNumber_139 ?_
        cases h
        exact q_iret rfl (by decide) dX12_isNumber_140 hQ
      · rw [if_neg c] at h
        refine q_iconst (v := (1 : Int32)) (by decide) dX12_isNumber_135 ?_
        refine q_goto 140 (by decide) dX12_isNumber_136 ?_
        cases h
        exact q_iret rfl (by decide) dX12_isNumber_140 hQ
  · rw [if_neg c] at h
    refine q_aload_n 0 rfl rfl dX12_isNumber_83 ?_
    refine q_getR (q_sh102 w) (by decide) (by decide) rfl lfX12_23 dX12_isNumber_84 (r := 160) (q_wr102_6 w) ?_
    refine q_iload_n 2 rfl rfl dX12_isNumber_87 ?_
    obtain ⟨hg4, h⟩ := q_guard h
    refine q_bald (q_sh160 w) (q_inb_in hg4) dX12_isNumber_88 ?_
    refine q_bipush (v := (48 : Int32)) (by decide) dX12_isNumber_89 ?_
    refine q_icmp_lt 105 (by decide) dX12_isNumber_91 (fun c => ?_) (fun c => ?_)
    · rw [if_pos c] at h
      refine q_iconst (v := (0 : Int32)) (by decide) dX12_isNumber_105 ?_
      cases h
      exact q_iret rfl (by decide) dX12_isNumber_106 hQ
    · rw [if_neg c] at h
      refine q_aload_n 0 rfl rfl dX12_isNumber_94 ?_
      refine q_getR (q_sh102 w) (by decide) (by decide) rfl lfX12_23 dX12_isNumber_95 (r := 160) (q_wr102_6 w) ?_
      refine q_iload_n 2 rfl rfl dX12_isNumber_98 ?_
      obtain ⟨hg5, h⟩ := q_guard h
      refine q_bald (q_sh160 w) (q_inb_in hg5) dX12_isNumber_99 ?_
      refine q_bipush (v := (57 : Int32)) (by decide) dX12_isNumber_100 ?_
      refine q_icmp_le 107 (by decide) dX12_isNumber_102 (fun c => ?_) (fun c => ?_)
      · rw [if_pos c] at h
        refine q_iinc (v := (x + (1 : Int32))) 2 [(3, .int (x + (1 : Int32))), (0, .ref 102), (1, .int y1)] (by decide) rfl (congrArg (fun t => x + t) (by decide)) rfl dX12_isNumber_107 ?_
        refine q_goto 73 (by decide) dX12_isNumber_110 ?_
        refine q_sub [1, 2, 0] rfl ?_
        cases h
        exact hQ
      · rw [if_neg c] at h
        refine q_iconst (v := (0 : Int32)) (by decide) dX12_isNumber_105 ?_
        cases h
        exact q_iret rfl (by decide) dX12_isNumber_106 hQ
theorem lX12_isNumber_73 {S : QS} {g : QG} {Q : Option Value → QS → Prop}  {y1 : Int32} {r : Bool} (w : q_Wire S) (hQ : Q (some (.int (q_b r))) S) : ∀ (c : Nat) (x : Int32), q_it (tX12_isNumber_73 S y1) c x = some r → q_L g mX12_isNumber 1 0 0 Q 0 0 73 [(0, .ref 102), (1, .int y1), (3, .int x)] [] S := by
  intro c
  induction c with
  | zero => intro x  h; cases h
  | succ c ih =>
    intro x  h
    simp only [q_it] at h
    cases hz : tX12_isNumber_73 S y1 x with
    | none => rw [hz] at h; cases h
    | some z =>
      rw [hz] at h
      refine sX12_isNumber_73 w hz ?_
      rcases z with z | y
      · cases h; exact hQ
      · exact ih y  h
theorem kX12_isNumber_73 {S : QS} {g : QG} {Q : Option Value → QS → Prop}  {y1 : Int32} {y3 : Int32} {r : Bool} (w : q_Wire S) (h : fX12_isNumber_73 S y1 y3 = some r) (hQ : Q (some (.int (q_b r))) S) : q_L g mX12_isNumber 1 0 0 Q 0 0 73 [(0, .ref 102), (1, .int y1), (3, .int y3)] [] S := by
  obtain ⟨c, hc⟩ := q_run_it h
  exact lX12_isNumber_73 w hQ c y3  hc
set_option maxRecDepth 20000 in
theorem kX12_isNumber {S : QS} {g : QG} {Q : Option Value → QS → Prop}  {x1 : Int32} {r : Bool} (w : q_Wire S) (h : fX12_isNumber S x1 = some r) (hQ : Q (some (.int (q_b r))) S) : q_M g mX12_isNumber 1 0 0 [.ref 102, .int x1] S Q := by
  unfold fX12_isNumber at h
  show q_L g mX12_isNumber 1 0 0 Q 0 0 0 [(0, .ref 102), (1, .int x1)] [] S
  refine q_iload_n 1 rfl rfl dX12_isNumber_0 ?_
  refine q_aload_n 0 rfl rfl dX12_isNumber_1 ?_
  refine q_getI (q_sh102 w) (by decide) (by decide) rfl lfX12_118 dX12_isNumber_2 ?_
  refine q_icmp_lt 10 (by decide) dX12_isNumber_5 (fun c => ?_) (fun c => ?_)
  · rw [if_pos c] at h
    refine q_aload_n 0 rfl rfl dX12_isNumber_10 ?_
    refine q_getR (q_sh102 w) (by decide) (by decide) rfl lfX12_23 dX12_isNumber_11 (r := 160) (q_wr102_6 w) ?_
    refine q_aload_n 0 rfl rfl dX12_isNumber_14 ?_
    refine q_getR (q_sh102 w) (by decide) (by decide) rfl lfX12_26 dX12_isNumber_15 (r := 161) (q_wr102_8 w) ?_
    refine q_iload_n 1 rfl rfl dX12_isNumber_18 ?_
    obtain ⟨hg6, h⟩ := q_guard h
    refine q_iald (q_sh161 w) (q_inb_in hg6) dX12_isNumber_19 ?_
    obtain ⟨hg7, h⟩ := q_guard h
    refine q_bald (q_sh160 w) (q_inb_in hg7) dX12_isNumber_20 ?_
    refine q_bipush (v := (45 : Int32)) (by decide) dX12_isNumber_21 ?_
    obtain ⟨v10, hv, h⟩ := q_bind h
    have K1 : q_L g mX12_isNumber 1 0 0 Q 0 0 43 [(0, .ref 102), (1, .int x1)] [.int v10] S := by
      refine q_istore_n [(2, .int v10), (0, .ref 102), (1, .int x1)] rfl (by decide) rfl dX12_isNumber_43 ?_
      refine q_aload_n 1 rfl rfl dX12_isNumber_44 ?_
      refine q_getR (q_sh102 w) (by decide) (by decide) rfl lfX12_30 dX12_isNumber_45 (r := 162) (q_wr102_9 w) ?_
      refine q_iload_n 2 rfl rfl dX12_isNumber_48 ?_
      obtain ⟨hg11, h⟩ := q_guard h
      refine q_iald (q_sh162 w) (q_inb_in hg11) dX12_isNumber_49 ?_
      refine q_iload_n 0 rfl rfl dX12_isNumber_50 ?_
      refine q_isub dX12_isNumber_51 ?_
      refine q_iconst (v := (1 : Int32)) (by decide) dX12_isNumber_52 ?_
      refine q_icmp_lt 69 (by decide) dX12_isNumber_53 (fun c => ?_) (fun c => ?_)
      · rw [if_pos c] at h
        refine q_iconst (v := (0 : Int32)) (by decide) dX12_isNumber_69 ?_
        obtain rfl := Option.some.inj h
        exact q_iret rfl (by decide) dX12_isNumber_70 hQ
      · rw [if_neg c] at h
        refine q_aload_n 1 rfl rfl dX12_isNumber_56 ?_
        refine q_getR (q_sh102 w) (by decide) (by decide) rfl lfX12_30 dX12_isNumber_57 (r := 162) (q_wr102_9 w) ?_
        refine q_iload_n 2 rfl rfl dX12_isNumber_60 ?_
        obtain ⟨hg12, h⟩ := q_guard h
        refine q_iald (q_sh162 w) (q_inb_in hg12) dX12_isNumber_61 ?_
        refine q_iload_n 0 rfl rfl dX12_isNumber_62 ?_
        refine q_isub dX12_isNumber_63 ?_
        refine q_bipush (v := (10 : Int32)) (by decide) dX12_isNumber_64 ?_
        refine q_icmp_le 71 (by decide) dX12_isNumber_66 (fun c => ?_) (fun c => ?_)
        · rw [if_pos c] at h
          refine q_iload_n 0 rfl rfl dX12_isNumber_71 ?_
          refine q_istore_n [(3, .int v10), (2, .int v10), (0, .ref 102), (1, .int x1)] rfl (by decide) rfl dX12_isNumber_72 ?_
          refine q_sub [2, 3, 0] rfl ?_
          exact kX12_isNumber_73 w h hQ
        · rw [if_neg c] at h
          refine q_iconst (v := (0 : Int32)) (by decide) dX12_isNumber_69 ?_
          obtain rfl := Option.some.inj h
          exact q_iret rfl (by decide) dX12_isNumber_70 hQ
    replace h := hv
    refine q_icmp_ne 37 (by decide) dX12_isNumber_23 (fun c => ?_) (fun c => ?_)
    · rw [if_neg c] at h
      refine q_aload_n 0 rfl rfl dX12_isNumber_37 ?_
      refine q_getR (q_sh102 w) (by decide) (by decide) rfl lfX12_26 dX12_isNumber_38 (r := 161) (q_wr102_8 w) ?_
      refine q_iload_n 1 rfl rfl dX12_isNumber_41 ?_
      obtain ⟨hg8, h⟩ := q_guard h
      refine q_iald (q_sh161 w) (q_inb_in hg8) dX12_isNumber_42 ?_
      obtain rfl := Option.some.inj h
      refine q_sub [0, 1] rfl ?_
      exact K1
    · rw [if_pos c] at h
      refine q_aload_n 0 rfl rfl dX12_isNumber_26 ?_
      refine q_getR (q_sh102 w) (by decide) (by decide) rfl lfX12_26 dX12_isNumber_27 (r := 161) (q_wr102_8 w) ?_
      refine q_iload_n 1 rfl rfl dX12_isNumber_30 ?_
      obtain ⟨hg9, h⟩ := q_guard h
      refine q_iald (q_sh161 w) (q_inb_in hg9) dX12_isNumber_31 ?_
      refine q_iconst (v := (1 : Int32)) (by decide) dX12_isNumber_32 ?_
      refine q_iadd dX12_isNumber_33 ?_
      refine q_goto 43 (by decide) dX12_isNumber_34 ?_
      obtain rfl := Option.some.inj h
      refine q_sub [0, 1] rfl ?_
      exact K1
  · rw [if_neg c] at h
    refine q_iconst (v := (0 : Int32)) (by decide) dX12_isNumber_8 ?_
    obtain rfl := Option.some.inj h
    exact q_iret rfl (by decide) dX12_isNumber_9 hQ
set_option maxRecDepth 20000 in
theorem kX12_takes {S : QS} {g : QG} {Q : Option Value → QS → Prop}  {x1 : Bool} {r : Bool × QS} (w : q_Wire S) (h : fX12_takes S x1 = some r) (hQ : Q (some (.int (q_b r.1))) r.2) : q_M g mX12_takes 0 0 0 [.ref 102, .int (q_b x1)] S Q := by
  unfold fX12_takes at h
  show q_L g mX12_takes 0 0 0 Q 0 0 0 [(0, .ref 102), (1, .int (q_b x1))] [] S
  refine q_iload_n 1 rfl rfl dX12_takes_0 ?_
  refine q_if_eq 14 (by decide) dX12_takes_1 (fun c => ?_) (fun c => ?_)
  · have c := q_b_0.mp c; rw [q_if0 c] at h
    refine q_iload_n 1 rfl rfl dX12_takes_14 ?_
    obtain rfl := Option.some.inj h
    exact q_iret rfl (q_b_nar _) dX12_takes_15 hQ
  · have c := q_b_n.mp c; rw [q_if1 c] at h
    refine q_aload_n 0 rfl rfl dX12_takes_4 ?_
    refine q_dup rfl dX12_takes_5 ?_
    refine q_getI (q_sh102 w) (by decide) (by decide) rfl lfX12_158 dX12_takes_6 ?_
    refine q_iconst (v := (1 : Int32)) (by decide) dX12_takes_9 ?_
    refine q_iadd dX12_takes_10 ?_
    refine q_putI (q_sh102 w) (by decide) (by decide) rfl rfl ⟨rfl, rfl⟩ lfX12_158 dX12_takes_11 ?_
    obtain ⟨S1, e2, h⟩ := q_bindS h
    refine q_st e2 ?_
    have fx3 : q_Fx S S1 := e2 ▸ q_Fx.sI (q_Fx.rf S)
    refine q_iload_n 1 rfl rfl dX12_takes_14 ?_
    obtain rfl := Option.some.inj h
    exact q_iret rfl (q_b_nar _) dX12_takes_15 hQ
set_option maxRecDepth 20000 in
theorem kX12_isLabel {S : QS} {g : QG} {Q : Option Value → QS → Prop}  {x1 : Int32} {r : Bool} (w : q_Wire S) (h : fX12_isLabel S x1 = some r) (hQ : Q (some (.int (q_b r))) S) : q_M g mX12_isLabel 5 0 0 [.ref 102, .int x1] S Q := by
  unfold fX12_isLabel at h
  show q_L g mX12_isLabel 5 0 0 Q 0 0 0 [(0, .ref 102), (1, .int x1)] [] S
  refine q_aload_n 0 rfl rfl dX12_isLabel_0 ?_
  refine q_iload_n 1 rfl rfl dX12_isLabel_1 ?_
  refine q_iconst (v := (1 : Int32)) (by decide) dX12_isLabel_2 ?_
  refine q_iadd dX12_isLabel_3 ?_
  refine q_ldcS (j := 39) (r := 1000078) rfl rfl dX12_isLabel_4 ?_
  obtain ⟨r1, e2, h⟩ := q_bind h
  refine q_callV (ci := 12) (d := 4) (Mc := mX12_is) (kc := 0) (nc := 0) [.int (x1 + (1 : Int32)), .ref 1000078] okX12_is (q_sh102 w) (by decide) rfl lmX12_163 inX12_is seX12_is rfl (Nat.le_of_ble_eq_true rfl) (Nat.le_of_ble_eq_true rfl) (Nat.le_refl _) (Nat.le_refl _) dX12_isLabel_6 (q_L.deep (by decide) (kX12_is (Q := fun r S' => r = some (.int (q_b r1)) ∧ S' = S) w e2 ⟨rfl, rfl⟩)) (q_kI ?_)
  obtain rfl := Option.some.inj h
  exact q_iret rfl (q_b_nar _) dX12_isLabel_9 hQ
set_option maxRecDepth 20000 in
theorem kX12_opOf {S : QS} {g : QG} {Q : Option Value → QS → Prop}  {x1 : Int32} {r : Int32} (w : q_Wire S) (h : fX12_opOf S x1 = some r) (hQ : Q (some (.int r)) S) : q_M g mX12_opOf 5 0 0 [.ref 102, .int x1] S Q := by
  unfold fX12_opOf at h
  show q_L g mX12_opOf 5 0 0 Q 0 0 0 [(0, .ref 102), (1, .int x1)] [] S
  refine q_aload_n 0 rfl rfl dX12_opOf_0 ?_
  refine q_aload_n 0 rfl rfl dX12_opOf_1 ?_
  refine q_getR (q_sh102 w) (by decide) (by decide) rfl lfX12_26 dX12_opOf_2 (r := 161) (q_wr102_8 w) ?_
  refine q_iload_n 1 rfl rfl dX12_opOf_5 ?_
  obtain ⟨hg1, h⟩ := q_guard h
  refine q_iald (q_sh161 w) (q_inb_in hg1) dX12_opOf_6 ?_
  refine q_aload_n 0 rfl rfl dX12_opOf_7 ?_
  refine q_getR (q_sh102 w) (by decide) (by decide) rfl lfX12_30 dX12_opOf_8 (r := 162) (q_wr102_9 w) ?_
  refine q_iload_n 1 rfl rfl dX12_opOf_11 ?_
  obtain ⟨hg2, h⟩ := q_guard h
  refine q_iald (q_sh162 w) (q_inb_in hg2) dX12_opOf_12 ?_
  refine q_ldcS (j := 41) (r := 1000082) rfl rfl dX12_opOf_13 ?_
  obtain ⟨r3, e4, h⟩ := q_bind h
  refine q_callV (ci := 12) (d := 4) (Mc := mX12_among) (kc := 0) (nc := 0) [.int (S.2.1 161 x1.toNatClampNeg), .int (S.2.1 162 x1.toNatClampNeg), .ref 1000082] okX12_among (q_sh102 w) (by decide) rfl lmX12_212 inX12_among seX12_among rfl (Nat.le_of_ble_eq_true rfl) (Nat.le_of_ble_eq_true rfl) (Nat.le_refl _) (Nat.le_refl _) dX12_opOf_15 (q_L.deep (by decide) (kX12_among (Q := fun r S' => r = some (.int r3) ∧ S' = S) w e4 ⟨rfl, rfl⟩)) (q_kI ?_)
  obtain rfl := Option.some.inj h
  exact q_iret rfl rfl dX12_opOf_18 hQ
set_option maxRecDepth 20000 in
theorem kX12_isLine {S : QS} {g : QG} {Q : Option Value → QS → Prop}   {r : Bool × QS} (w : q_Wire S) (h : fX12_isLine S = some r) (hQ : Q (some (.int (q_b r.1))) r.2) : q_M g mX12_isLine 6 0 0 [.ref 102] S Q := by
  unfold fX12_isLine at h
  show q_L g mX12_isLine 6 0 0 Q 0 0 0 [(0, .ref 102)] [] S
  refine q_aload_n 0 rfl rfl dX12_isLine_0 ?_
  refine q_getI (q_sh102 w) (by decide) (by decide) rfl lfX12_158 dX12_isLine_1 ?_
  refine q_aload_n 0 rfl rfl dX12_isLine_4 ?_
  refine q_getI (q_sh102 w) (by decide) (by decide) rfl lfX12_118 dX12_isLine_5 ?_
  refine q_icmp_lt 13 (by decide) dX12_isLine_8 (fun c => ?_) (fun c => ?_)
  · rw [if_pos c] at h
    refine q_aload_n 0 rfl rfl dX12_isLine_13 ?_
    refine q_aload_n 0 rfl rfl dX12_isLine_14 ?_
    refine q_getI (q_sh102 w) (by decide) (by decide) rfl lfX12_158 dX12_isLine_15 ?_
    obtain ⟨r1, e2, h⟩ := q_bind h
    refine q_callV (ci := 12) (d := 5) (Mc := mX12_isLabel) (kc := 0) (nc := 0) [.int (S.2.1 102 11)] okX12_isLabel (q_sh102 w) (by decide) rfl lmX12_216 inX12_isLabel seX12_isLabel rfl (Nat.le_of_ble_eq_true rfl) (Nat.le_of_ble_eq_true rfl) (Nat.le_refl _) (Nat.le_refl _) dX12_isLine_18 (q_L.deep (by decide) (kX12_isLabel (Q := fun r S' => r = some (.int (q_b r1)) ∧ S' = S) w e2 ⟨rfl, rfl⟩)) (q_kI ?_)
    refine q_if_eq 53 (by decide) dX12_isLine_21 (fun c => ?_) (fun c => ?_)
    · have c := q_b_0.mp c; rw [q_if0 c] at h
      refine q_aload_n 0 rfl rfl dX12_isLine_53 ?_
      refine q_aload_n 0 rfl rfl dX12_isLine_54 ?_
      refine q_getI (q_sh102 w) (by decide) (by decide) rfl lfX12_158 dX12_isLine_55 ?_
      refine q_ldcS (j := 40) (r := 1000080) rfl rfl dX12_isLine_58 ?_
      obtain ⟨r3, e4, h⟩ := q_bind h
      refine q_callV (ci := 12) (d := 5) (Mc := mX12_is) (kc := 0) (nc := 0) [.int (S.2.1 102 11), .ref 1000080] okX12_is (q_sh102 w) (by decide) rfl lmX12_163 inX12_is seX12_is rfl (Nat.le_of_ble_eq_true rfl) (Nat.le_of_ble_eq_true rfl) (Nat.le_refl _) (Nat.le_refl _) dX12_isLine_60 (q_L.deep (by decide) (kX12_is (Q := fun r S' => r = some (.int (q_b r3)) ∧ S' = S) w e4 ⟨rfl, rfl⟩)) (q_kI ?_)
      refine q_if_eq 142 (by decide) dX12_isLine_63 (fun c => ?_) (fun c => ?_)
      · have c := q_b_0.mp c; rw [q_if0 c] at h
        refine q_aload_n 0 rfl rfl dX12_isLine_142 ?_
        refine q_aload_n 0 rfl rfl dX12_isLine_143 ?_
        refine q_getI (q_sh102 w) (by decide) (by decide) rfl lfX12_158 dX12_isLine_144 ?_
        obtain ⟨r5, e6, h⟩ := q_bind h
        refine q_callV (ci := 12) (d := 5) (Mc := mX12_opOf) (kc := 0) (nc := 0) [.int (S.2.1 102 11)] okX12_opOf (q_sh102 w) (by decide) rfl lmX12_221 inX12_opOf seX12_opOf rfl (Nat.le_of_ble_eq_true rfl) (Nat.le_of_ble_eq_true rfl) (Nat.le_refl _) (Nat.le_refl _) dX12_isLine_147 (q_L.deep (by decide) (kX12_opOf (Q := fun r S' => r = some (.int r5) ∧ S' = S) w e6 ⟨rfl, rfl⟩)) (q_kI ?_)
        refine q_istore_n [(1, .int r5), (0, .ref 102)] rfl (by decide) rfl dX12_isLine_150 ?_
        refine q_iload_n 0 rfl rfl dX12_isLine_151 ?_
        refine q_if_ge 172 (by decide) dX12_isLine_152 (fun c => ?_) (fun c => ?_)
        · rw [if_pos c] at h
          refine q_aload_n 1 rfl rfl dX12_isLine_172 ?_
          refine q_dup rfl dX12_isLine_173 ?_
          refine q_getI (q_sh102 w) (by decide) (by decide) rfl lfX12_158 dX12_isLine_174 ?_
          refine q_iconst (v := (1 : Int32)) (by decide) dX12_isLine_177 ?_
          refine q_iadd dX12_isLine_178 ?_
          refine q_putI (q_sh102 w) (by decide) (by decide) rfl rfl ⟨rfl, rfl⟩ lfX12_158 dX12_isLine_179 ?_
          obtain ⟨S7, e8, h⟩ := q_bindS h
          refine q_st e8 ?_
          have fx9 : q_Fx S S7 := e8 ▸ q_Fx.sI (q_Fx.rf S)
          refine q_ldcS (j := 42) (r := 1000084) rfl rfl dX12_isLine_182 ?_
          refine q_iload_n 0 rfl rfl dX12_isLine_184 ?_
          obtain ⟨r10, e11, h⟩ := q_bind h
          obtain ⟨js, own, ix, tx, bs, hj, hr, _⟩ := q_isS_of (fJ0_charAt_str e11)
          refine q_callT (d := 5) (Mc := mJ0_charAt_5068e) (kc := 0) (nc := 0) [.int r5] okJ0_charAt_5068e hj hr rfl lmX12_127 inJ0_charAt_5068e seJ0_charAt_5068e rfl (Nat.le_of_ble_eq_true rfl) (Nat.le_of_ble_eq_true rfl) (Nat.le_refl _) (Nat.le_refl _) dX12_isLine_185 (q_L.deep (by decide) (kJ0_charAt_5068e (Q := fun r S' => r = some (.int r10) ∧ S' = S7)  e11 ⟨rfl, rfl⟩)) (q_kI ?_)
          by_cases c13 : r10 = (67 : Int32)
          · rw [if_pos c13] at h
            refine q_tabIn (M := mX12_isLine) (pc := 188) (x := r10) 338 (by rw [c13]; decide) (by rw [c13]; decide) (by rw [c13]; rfl) (by decide) dX12_isLine_188 ?_
            refine q_aload_n 1 rfl rfl dX12_isLine_338 ?_
            refine q_aload_n 1 rfl rfl dX12_isLine_339 ?_
            refine q_aload_n 1 rfl rfl dX12_isLine_340 ?_
            refine q_getI (q_sh102 (w.fx fx9)) (by decide) (by decide) rfl lfX12_158 dX12_isLine_341 ?_
            obtain ⟨r14, e15, h⟩ := q_bind h
            refine q_callV (ci := 12) (d := 5) (Mc := mX12_isClassName) (kc := 0) (nc := 0) [.int (S7.2.1 102 11)] okX12_isClassName (q_sh102 (w.fx fx9)) (by decide) rfl lmX12_171 inX12_isClassName seX12_isClassName rfl (Nat.le_of_ble_eq_true rfl) (Nat.le_of_ble_eq_true rfl) (Nat.le_refl _) (Nat.le_refl _) dX12_isLine_344 (q_L.deep (by decide) (kX12_isClassName (Q := fun r S' => r = some (.int (q_b r14)) ∧ S' = S7) (w.fx fx9) e15 ⟨rfl, rfl⟩)) (q_kI ?_)
            obtain ⟨r16, e17, h⟩ := q_bind h
            refine q_callV (ci := 12) (d := 5) (Mc := mX12_takes) (kc := 0) (nc := 0) [.int (q_b r14)] okX12_takes (q_sh102 (w.fx fx9)) (by decide) rfl lmX12_167 inX12_takes seX12_takes rfl (Nat.le_of_ble_eq_true rfl) (Nat.le_of_ble_eq_true rfl) (Nat.le_refl _) (Nat.le_refl _) dX12_isLine_347 (q_L.deep (by decide) (kX12_takes (Q := fun r S' => r = some (.int (q_b r16.1)) ∧ S' = r16.2) (w.fx fx9) e17 ⟨rfl, rfl⟩)) (q_kI ?_)
            have fx18 : q_Fx S r16.2 := q_Fx.tr (fx9) (fxX12_takes e17)
            obtain rfl := Option.some.inj h
            exact q_iret rfl (q_b_nar _) dX12_isLine_350 hQ
          rw [if_neg c13] at h
          by_cases c19 : r10 = (69 : Int32)
          · rw [if_pos c19] at h
            refine q_tabIn (M := mX12_isLine) (pc := 188) (x := r10) 351 (by rw [c19]; decide) (by rw [c19]; decide) (by rw [c19]; rfl) (by decide) dX12_isLine_188 ?_
            refine q_aload_n 1 rfl rfl dX12_isLine_351 ?_
            refine q_aload_n 1 rfl rfl dX12_isLine_352 ?_
            refine q_aload_n 1 rfl rfl dX12_isLine_353 ?_
            refine q_getI (q_sh102 (w.fx fx9)) (by decide) (by decide) rfl lfX12_158 dX12_isLine_354 ?_
            refine q_ldcS (j := 43) (r := 1000086) rfl rfl dX12_isLine_357 ?_
            obtain ⟨r20, e21, h⟩ := q_bind h
            refine q_callV (ci := 12) (d := 5) (Mc := mX12_is) (kc := 0) (nc := 0) [.int (S7.2.1 102 11), .ref 1000086] okX12_is (q_sh102 (w.fx fx9)) (by decide) rfl lmX12_163 inX12_is seX12_is rfl (Nat.le_of_ble_eq_true rfl) (Nat.le_of_ble_eq_true rfl) (Nat.le_refl _) (Nat.le_refl _) dX12_isLine_359 (q_L.deep (by decide) (kX12_is (Q := fun r S' => r = some (.int (q_b r20)) ∧ S' = S7) (w.fx fx9) e21 ⟨rfl, rfl⟩)) (q_kI ?_)
            refine q_if_ne 376 (by decide) dX12_isLine_362 (fun c => ?_) (fun c => ?_)
            · have c := q_b_n.mp c; rw [q_if1 c] at h
              refine q_iconst (v := (1 : Int32)) (by decide) dX12_isLine_376 ?_
              refine q_goto 381 (by decide) dX12_isLine_377 ?_
              obtain ⟨r22, e23, h⟩ := q_bind h
              refine q_callV (ci := 12) (d := 5) (Mc := mX12_takes) (kc := 0) (nc := 0) [.int (1 : Int32)] okX12_takes (q_sh102 (w.fx fx9)) (by decide) rfl lmX12_167 inX12_takes seX12_takes rfl (Nat.le_of_ble_eq_true rfl) (Nat.le_of_ble_eq_true rfl) (Nat.le_refl _) (Nat.le_refl _) dX12_isLine_381 (q_L.deep (by decide) (kX12_takes (Q := fun r S' => r = some (.int (q_b r22.1)) ∧ S' = r22.2) (w.fx fx9) e23 ⟨rfl, rfl⟩)) (q_kI ?_)
              have fx24 : q_Fx S r22.2 := q_Fx.tr (fx9) (fxX12_takes e23)
              obtain rfl := Option.some.inj h
              exact q_iret rfl (q_b_nar _) dX12_isLine_384 hQ
            · have c := q_b_0.mp c; rw [q_if0 c] at h
              refine q_aload_n 1 rfl rfl dX12_isLine_365 ?_
              refine q_aload_n 1 rfl rfl dX12_isLine_366 ?_
              refine q_getI (q_sh102 (w.fx fx9)) (by decide) (by decide) rfl lfX12_158 dX12_isLine_367 ?_
              obtain ⟨r25, e26, h⟩ := q_bind h
              refine q_callV (ci := 12) (d := 5) (Mc := mX12_isClassName) (kc := 0) (nc := 0) [.int (S7.2.1 102 11)] okX12_isClassName (q_sh102 (w.fx fx9)) (by decide) rfl lmX12_171 inX12_isClassName seX12_isClassName rfl (Nat.le_of_ble_eq_true rfl) (Nat.le_of_ble_eq_true rfl) (Nat.le_refl _) (Nat.le_refl _) dX12_isLine_370 (q_L.deep (by decide) (kX12_isClassName (Q := fun r S' => r = some (.int (q_b r25)) ∧ S' = S7) (w.fx fx9) e26 ⟨rfl, rfl⟩)) (q_kI ?_)
              refine q_if_eq 380 (by decide) dX12_isLine_373 (fun c => ?_) (fun c => ?_)
              · have c := q_b_0.mp c; rw [q_if0 c] at h
                refine q_iconst (v := (0 : Int32)) (by decide) dX12_isLine_380 ?_
                obtain ⟨r27, e28, h⟩ := q_bind h
                refine q_callV (ci := 12) (d := 5) (Mc := mX12_takes) (kc := 0) (nc := 0) [.int (0 : Int32)] okX12_takes (q_sh102 (w.fx fx9)) (by decide) rfl lmX12_167 inX12_takes seX12_takes rfl (Nat.le_of_ble_eq_true rfl) (Nat.le_of_ble_eq_true rfl) (Nat.le_refl _) (Nat.le_refl _) dX12_isLine_381 (q_L.deep (by decide) (kX12_takes (Q := fun r S' => r = some (.int (q_b r27.1)) ∧ S' = r27.2) (w.fx fx9) e28 ⟨rfl, rfl⟩)) (q_kI ?_)
                have fx29 : q_Fx S r27.2 := q_Fx.tr (fx9) (fxX12_takes e28)
                obtain rfl := Option.some.inj h
                exact q_iret rfl (q_b_nar _) dX12_isLine_384 hQ
              · have c := q_b_n.mp c; rw [q_if1 c] at h
                refine q_iconst (v := (1 : Int32)) (by decide) dX12_isLine_376 ?_
                refine q_goto 381 (by decide) dX12_isLine_377 ?_
                obtain ⟨r30, e31, h⟩ := q_bind h
                refine q_callV (ci := 12) (d := 5) (Mc := mX12_takes) (kc := 0) (nc := 0) [.int (1 : Int32)] okX12_takes (q_sh102 (w.fx fx9)) (by decide) rfl lmX12_167 inX12_takes seX12_takes rfl (Nat.le_of_ble_eq_true rfl) (Nat.le_of_ble_eq_true rfl) (Nat.le_refl _) (Nat.le_refl _) dX12_isLine_381 (q_L.deep (by decide) (kX12_takes (Q := fun r S' => r = some (.int (q_b r30.1)) ∧ S' = r30.2) (w.fx fx9) e31 ⟨rfl, rfl⟩)) (q_kI ?_)
                have fx32 : q_Fx S r30.2 := q_Fx.tr (fx9) (fxX12_takes e31)
                obtain rfl := Option.some.inj h
                exact q_iret rfl (q_b_nar _) dX12_isLine_384 hQ
          rw [if_neg c19] at h
          by_cases c33 : r10 = (70 : Int32)
          · rw [if_pos c33] at h
            refine q_tabIn (M := mX12_isLine) (pc := 188) (x := r10) 385 (by rw [c33]; decide) (by rw [c33]; decide) (by rw [c33]; rfl) (by decide) dX12_isLine_188 ?_
            refine q_aload_n 1 rfl rfl dX12_isLine_385 ?_
            refine q_aload_n 1 rfl rfl dX12_isLine_386 ?_
            refine q_aload_n 1 rfl rfl dX12_isLine_387 ?_
            refine q_getI (q_sh102 (w.fx fx9)) (by decide) (by decide) rfl lfX12_158 dX12_isLine_388 ?_
            obtain ⟨r34, e35, h⟩ := q_bind h
            refine q_callV (ci := 12) (d := 5) (Mc := mX12_isReference) (kc := 0) (nc := 0) [.int (S7.2.1 102 11)] okX12_isReference (q_sh102 (w.fx fx9)) (by decide) rfl lmX12_228 inX12_isReference seX12_isReference rfl (Nat.le_of_ble_eq_true rfl) (Nat.le_of_ble_eq_true rfl) (Nat.le_refl _) (Nat.le_refl _) dX12_isLine_391 (q_L.deep (by decide) (kX12_isReference (Q := fun r S' => r = some (.int (q_b r34)) ∧ S' = S7) (w.fx fx9) e35 ⟨rfl, rfl⟩)) (q_kI ?_)
            obtain ⟨r36, e37, h⟩ := q_bind h
            refine q_callV (ci := 12) (d := 5) (Mc := mX12_takes) (kc := 0) (nc := 0) [.int (q_b r34)] okX12_takes (q_sh102 (w.fx fx9)) (by decide) rfl lmX12_167 inX12_takes seX12_takes rfl (Nat.le_of_ble_eq_true rfl) (Nat.le_of_ble_eq_true rfl) (Nat.le_refl _) (Nat.le_refl _) dX12_isLine_394 (q_L.deep (by decide) (kX12_takes (Q := fun r S' => r = some (.int (q_b r36.1)) ∧ S' = r36.2) (w.fx fx9) e37 ⟨rfl, rfl⟩)) (q_kI ?_)
            have fx38 : q_Fx S r36.2 := q_Fx.tr (fx9) (fxX12_takes e37)
            obtain rfl := Option.some.inj h
            exact q_iret rfl (q_b_nar _) dX12_isLine_397 hQ
          rw [if_neg c33] at h
          by_cases c39 : r10 = (73 : Int32)
          · rw [if_pos c39] at h
            refine q_tabIn (M := mX12_isLine) (pc := 188) (x := r10) 289 (by rw [c39]; decide) (by rw [c39]; decide) (by rw [c39]; rfl) (by decide) dX12_isLine_188 ?_
            refine q_aload_n 1 rfl rfl dX12_isLine_289 ?_
            refine q_aload_n 1 rfl rfl dX12_isLine_290 ?_
            refine q_aload_n 1 rfl rfl dX12_isLine_291 ?_
            refine q_getI (q_sh102 (w.fx fx9)) (by decide) (by decide) rfl lfX12_158 dX12_isLine_292 ?_
            obtain ⟨r40, e41, h⟩ := q_bind h
            refine q_callV (ci := 12) (d := 5) (Mc := mX12_isNumber) (kc := 0) (nc := 0) [.int (S7.2.1 102 11)] okX12_isNumber (q_sh102 (w.fx fx9)) (by decide) rfl lmX12_202 inX12_isNumber seX12_isNumber rfl (Nat.le_of_ble_eq_true rfl) (Nat.le_of_ble_eq_true rfl) (Nat.le_refl _) (Nat.le_refl _) dX12_isLine_295 (q_L.deep (by decide) (kX12_isNumber (Q := fun r S' => r = some (.int (q_b r40)) ∧ S' = S7) (w.fx fx9) e41 ⟨rfl, rfl⟩)) (q_kI ?_)
            obtain ⟨r42, e43, h⟩ := q_bind h
            refine q_callV (ci := 12) (d := 5) (Mc := mX12_takes) (kc := 0) (nc := 0) [.int (q_b r40)] okX12_takes (q_sh102 (w.fx fx9)) (by decide) rfl lmX12_167 inX12_takes seX12_takes rfl (Nat.le_of_ble_eq_true rfl) (Nat.le_of_ble_eq_true rfl) (Nat.le_refl _) (Nat.le_refl _) dX12_isLine_298 (q_L.deep (by decide) (kX12_takes (Q := fun r S' => r = some (.int (q_b r42.1)) ∧ S' = r42.2) (w.fx fx9) e43 ⟨rfl, rfl⟩)) (q_kI ?_)
            have fx44 : q_Fx S r42.2 := q_Fx.tr (fx9) (fxX12_takes e43)
            refine q_if_eq 323 (by decide) dX12_isLine_301 (fun c => ?_) (fun c => ?_)
            · have c := q_b_0.mp c; rw [q_if0 c] at h
              refine q_iconst (v := (0 : Int32)) (by decide) dX12_isLine_323 ?_
              obtain rfl := Option.some.inj h
              exact q_iret rfl (by decide) dX12_isLine_324 hQ
            · have c := q_b_n.mp c; rw [q_if1 c] at h
              refine q_aload_n 1 rfl rfl dX12_isLine_304 ?_
              refine q_aload_n 1 rfl rfl dX12_isLine_305 ?_
              refine q_aload_n 1 rfl rfl dX12_isLine_306 ?_
              refine q_getI (q_sh102 (w.fx fx44)) (by decide) (by decide) rfl lfX12_158 dX12_isLine_307 ?_
              obtain ⟨r45, e46, h⟩ := q_bind h
              refine q_callV (ci := 12) (d := 5) (Mc := mX12_isNumber) (kc := 0) (nc := 0) [.int (r42.2.2.1 102 11)] okX12_isNumber (q_sh102 (w.fx fx44)) (by decide) rfl lmX12_202 inX12_isNumber seX12_isNumber rfl (Nat.le_of_ble_eq_true rfl) (Nat.le_of_ble_eq_true rfl) (Nat.le_refl _) (Nat.le_refl _) dX12_isLine_310 (q_L.deep (by decide) (kX12_isNumber (Q := fun r S' => r = some (.int (q_b r45)) ∧ S' = r42.2) (w.fx fx44) e46 ⟨rfl, rfl⟩)) (q_kI ?_)
              obtain ⟨r47, e48, h⟩ := q_bind h
              refine q_callV (ci := 12) (d := 5) (Mc := mX12_takes) (kc := 0) (nc := 0) [.int (q_b r45)] okX12_takes (q_sh102 (w.fx fx44)) (by decide) rfl lmX12_167 inX12_takes seX12_takes rfl (Nat.le_of_ble_eq_true rfl) (Nat.le_of_ble_eq_true rfl) (Nat.le_refl _) (Nat.le_refl _) dX12_isLine_313 (q_L.deep (by decide) (kX12_takes (Q := fun r S' => r = some (.int (q_b r47.1)) ∧ S' = r47.2) (w.fx fx44) e48 ⟨rfl, rfl⟩)) (q_kI ?_)
              have fx49 : q_Fx S r47.2 := q_Fx.tr (fx44) (fxX12_takes e48)
              refine q_if_eq 323 (by decide) dX12_isLine_316 (fun c => ?_) (fun c => ?_)
              · have c := q_b_0.mp c; rw [q_if0 c] at h
                refine q_iconst (v := (0 : Int32)) (by decide) dX12_isLine_323 ?_
                obtain rfl := Option.some.inj h
                exact q_iret rfl (by decide) dX12_isLine_324 hQ
              · have c := q_b_n.mp c; rw [q_if1 c] at h
                refine q_iconst (v := (1 : Int32)) (by decide) dX12_isLine_319 ?_
                refine q_goto 324 (by decide) dX12_isLine_320 ?_
                obtain rfl := Option.some.inj h
                exact q_iret rfl (by decide) dX12_isLine_324 hQ
          rw [if_neg c39] at h
          by_cases c50 : r10 = (75 : Int32) ∨ r10 = (78 : Int32)
          · rw [if_pos c50] at h
            have K : ∀ (hK : True), q_L g mX12_isLine 6 0 0 Q 0 0 276 [(1, .int r5), (0, .ref 102)] [] S7 := by
              intro _
              refine q_aload_n 1 rfl rfl dX12_isLine_276 ?_
              refine q_aload_n 1 rfl rfl dX12_isLine_277 ?_
              refine q_aload_n 1 rfl rfl dX12_isLine_278 ?_
              refine q_getI (q_sh102 (w.fx fx9)) (by decide) (by decide) rfl lfX12_158 dX12_isLine_279 ?_
              obtain ⟨r51, e52, h⟩ := q_bind h
              refine q_callV (ci := 12) (d := 5) (Mc := mX12_isNumber) (kc := 0) (nc := 0) [.int (S7.2.1 102 11)] okX12_isNumber (q_sh102 (w.fx fx9)) (by decide) rfl lmX12_202 inX12_isNumber seX12_isNumber rfl (Nat.le_of_ble_eq_true rfl) (Nat.le_of_ble_eq_true rfl) (Nat.le_refl _) (Nat.le_refl _) dX12_isLine_282 (q_L.deep (by decide) (kX12_isNumber (Q := fun r S' => r = some (.int (q_b r51)) ∧ S' = S7) (w.fx fx9) e52 ⟨rfl, rfl⟩)) (q_kI ?_)
              obtain ⟨r53, e54, h⟩ := q_bind h
              refine q_callV (ci := 12) (d := 5) (Mc := mX12_takes) (kc := 0) (nc := 0) [.int (q_b r51)] okX12_takes (q_sh102 (w.fx fx9)) (by decide) rfl lmX12_167 inX12_takes seX12_takes rfl (Nat.le_of_ble_eq_true rfl) (Nat.le_of_ble_eq_true rfl) (Nat.le_refl _) (Nat.le_refl _) dX12_isLine_285 (q_L.deep (by decide) (kX12_takes (Q := fun r S' => r = some (.int (q_b r53.1)) ∧ S' = r53.2) (w.fx fx9) e54 ⟨rfl, rfl⟩)) (q_kI ?_)
              have fx55 : q_Fx S r53.2 := q_Fx.tr (fx9) (fxX12_takes e54)
              obtain rfl := Option.some.inj h
              exact q_iret rfl (q_b_nar _) dX12_isLine_288 hQ
            rcases c50 with c50 | c50
            · exact q_tabIn (M := mX12_isLine) (pc := 188) (x := r10) 276 (by rw [c50]; decide) (by rw [c50]; decide) (by rw [c50]; rfl) (by decide) dX12_isLine_188 (K trivial)
            · exact q_tabIn (M := mX12_isLine) (pc := 188) (x := r10) 276 (by rw [c50]; decide) (by rw [c50]; decide) (by rw [c50]; rfl) (by decide) dX12_isLine_188 (K trivial)
          rw [if_neg c50] at h
          by_cases c56 : r10 = (76 : Int32)
          · rw [if_pos c56] at h
            refine q_tabIn (M := mX12_isLine) (pc := 188) (x := r10) 325 (by rw [c56]; decide) (by rw [c56]; decide) (by rw [c56]; rfl) (by decide) dX12_isLine_188 ?_
            refine q_aload_n 1 rfl rfl dX12_isLine_325 ?_
            refine q_aload_n 1 rfl rfl dX12_isLine_326 ?_
            refine q_aload_n 1 rfl rfl dX12_isLine_327 ?_
            refine q_getI (q_sh102 (w.fx fx9)) (by decide) (by decide) rfl lfX12_158 dX12_isLine_328 ?_
            obtain ⟨r57, e58, h⟩ := q_bind h
            refine q_callV (ci := 12) (d := 5) (Mc := mX12_isSmallName) (kc := 0) (nc := 0) [.int (S7.2.1 102 11)] okX12_isSmallName (q_sh102 (w.fx fx9)) (by decide) rfl lmX12_186 inX12_isSmallName seX12_isSmallName rfl (Nat.le_of_ble_eq_true rfl) (Nat.le_of_ble_eq_true rfl) (Nat.le_refl _) (Nat.le_refl _) dX12_isLine_331 (q_L.deep (by decide) (kX12_isSmallName (Q := fun r S' => r = some (.int (q_b r57)) ∧ S' = S7) (w.fx fx9) e58 ⟨rfl, rfl⟩)) (q_kI ?_)
            obtain ⟨r59, e60, h⟩ := q_bind h
            refine q_callV (ci := 12) (d := 5) (Mc := mX12_takes) (kc := 0) (nc := 0) [.int (q_b r57)] okX12_takes (q_sh102 (w.fx fx9)) (by decide) rfl lmX12_167 inX12_takes seX12_takes rfl (Nat.le_of_ble_eq_true rfl) (Nat.le_of_ble_eq_true rfl) (Nat.le_refl _) (Nat.le_refl _) dX12_isLine_334 (q_L.deep (by decide) (kX12_takes (Q := fun r S' => r = some (.int (q_b r59.1)) ∧ S' = r59.2) (w.fx fx9) e60 ⟨rfl, rfl⟩)) (q_kI ?_)
            have fx61 : q_Fx S r59.2 := q_Fx.tr (fx9) (fxX12_takes e60)
            obtain rfl := Option.some.inj h
            exact q_iret rfl (q_b_nar _) dX12_isLine_337 hQ
          rw [if_neg c56] at h
          by_cases c62 : r10 = (84 : Int32)
          · rw [if_pos c62] at h
            refine q_tabIn (M := mX12_isLine) (pc := 188) (x := r10) 398 (by rw [c62]; decide) (by rw [c62]; decide) (by rw [c62]; rfl) (by decide) dX12_isLine_188 ?_
            refine q_aload_n 1 rfl rfl dX12_isLine_398 ?_
            refine q_aload_n 1 rfl rfl dX12_isLine_399 ?_
            refine q_aload_n 1 rfl rfl dX12_isLine_400 ?_
            refine q_getI (q_sh102 (w.fx fx9)) (by decide) (by decide) rfl lfX12_158 dX12_isLine_401 ?_
            obtain ⟨r63, e64, h⟩ := q_bind h
            refine q_callV (ci := 12) (d := 5) (Mc := mX12_isType) (kc := 0) (nc := 0) [.int (S7.2.1 102 11)] okX12_isType (q_sh102 (w.fx fx9)) (by decide) rfl lmX12_189 inX12_isType seX12_isType rfl (Nat.le_of_ble_eq_true rfl) (Nat.le_of_ble_eq_true rfl) (Nat.le_refl _) (Nat.le_refl _) dX12_isLine_404 (q_L.deep (by decide) (kX12_isType (Q := fun r S' => r = some (.int (q_b r63)) ∧ S' = S7) (w.fx fx9) e64 ⟨rfl, rfl⟩)) (q_kI ?_)
            refine q_if_eq 427 (by decide) dX12_isLine_407 (fun c => ?_) (fun c => ?_)
            · have c := q_b_0.mp c; rw [q_if0 c] at h
              refine q_iconst (v := (0 : Int32)) (by decide) dX12_isLine_427 ?_
              obtain ⟨r65, e66, h⟩ := q_bind h
              refine q_callV (ci := 12) (d := 5) (Mc := mX12_takes) (kc := 0) (nc := 0) [.int (0 : Int32)] okX12_takes (q_sh102 (w.fx fx9)) (by decide) rfl lmX12_167 inX12_takes seX12_takes rfl (Nat.le_of_ble_eq_true rfl) (Nat.le_of_ble_eq_true rfl) (Nat.le_refl _) (Nat.le_refl _) dX12_isLine_428 (q_L.deep (by decide) (kX12_takes (Q := fun r S' => r = some (.int (q_b r65.1)) ∧ S' = r65.2) (w.fx fx9) e66 ⟨rfl, rfl⟩)) (q_kI ?_)
              have fx67 : q_Fx S r65.2 := q_Fx.tr (fx9) (fxX12_takes e66)
              obtain rfl := Option.some.inj h
              exact q_iret rfl (q_b_nar _) dX12_isLine_431 hQ
            · have c := q_b_n.mp c; rw [q_if1 c] at h
              refine q_aload_n 1 rfl rfl dX12_isLine_410 ?_
              refine q_aload_n 1 rfl rfl dX12_isLine_411 ?_
              refine q_getI (q_sh102 (w.fx fx9)) (by decide) (by decide) rfl lfX12_158 dX12_isLine_412 ?_
              refine q_ldcS (j := 43) (r := 1000086) rfl rfl dX12_isLine_415 ?_
              obtain ⟨r68, e69, h⟩ := q_bind h
              refine q_callV (ci := 12) (d := 5) (Mc := mX12_is) (kc := 0) (nc := 0) [.int (S7.2.1 102 11), .ref 1000086] okX12_is (q_sh102 (w.fx fx9)) (by decide) rfl lmX12_163 inX12_is seX12_is rfl (Nat.le_of_ble_eq_true rfl) (Nat.le_of_ble_eq_true rfl) (Nat.le_refl _) (Nat.le_refl _) dX12_isLine_417 (q_L.deep (by decide) (kX12_is (Q := fun r S' => r = some (.int (q_b r68)) ∧ S' = S7) (w.fx fx9) e69 ⟨rfl, rfl⟩)) (q_kI ?_)
              refine q_if_ne 427 (by decide) dX12_isLine_420 (fun c => ?_) (fun c => ?_)
              · have c := q_b_n.mp c; rw [q_if1 c] at h
                refine q_iconst (v := (0 : Int32)) (by decide) dX12_isLine_427 ?_
                obtain ⟨r70, e71, h⟩ := q_bind h
                refine q_callV (ci := 12) (d := 5) (Mc := mX12_takes) (kc := 0) (nc := 0) [.int (0 : Int32)] okX12_takes (q_sh102 (w.fx fx9)) (by decide) rfl lmX12_167 inX12_takes seX12_takes rfl (Nat.le_of_ble_eq_true rfl) (Nat.le_of_ble_eq_true rfl) (Nat.le_refl _) (Nat.le_refl _) dX12_isLine_428 (q_L.deep (by decide) (kX12_takes (Q := fun r S' => r = some (.int (q_b r70.1)) ∧ S' = r70.2) (w.fx fx9) e71 ⟨rfl, rfl⟩)) (q_kI ?_)
                have fx72 : q_Fx S r70.2 := q_Fx.tr (fx9) (fxX12_takes e71)
                obtain rfl := Option.some.inj h
                exact q_iret rfl (q_b_nar _) dX12_isLine_431 hQ
              · have c := q_b_0.mp c; rw [q_if0 c] at h
                refine q_iconst (v := (1 : Int32)) (by decide) dX12_isLine_423 ?_
                refine q_goto 428 (by decide) dX12_isLine_424 ?_
                obtain ⟨r73, e74, h⟩ := q_bind h
                refine q_callV (ci := 12) (d := 5) (Mc := mX12_takes) (kc := 0) (nc := 0) [.int (1 : Int32)] okX12_takes (q_sh102 (w.fx fx9)) (by decide) rfl lmX12_167 inX12_takes seX12_takes rfl (Nat.le_of_ble_eq_true rfl) (Nat.le_of_ble_eq_true rfl) (Nat.le_refl _) (Nat.le_refl _) dX12_isLine_428 (q_L.deep (by decide) (kX12_takes (Q := fun r S' => r = some (.int (q_b r73.1)) ∧ S' = r73.2) (w.fx fx9) e74 ⟨rfl, rfl⟩)) (q_kI ?_)
                have fx75 : q_Fx S r73.2 := q_Fx.tr (fx9) (fxX12_takes e74)
                obtain rfl := Option.some.inj h
                exact q_iret rfl (q_b_nar _) dX12_isLine_431 hQ
          rw [if_neg c62] at h
          have n76 : ¬ r10 = (75 : Int32) := (fun q => c50 (Or.inl q))
          have n77 : ¬ r10 = (78 : Int32) := (fun q => c50 (Or.inr (q)))
          have K : ∀ (hK : True), q_L g mX12_isLine 6 0 0 Q 0 0 432 [(1, .int r5), (0, .ref 102)] [] S7 := by
            intro _
            refine q_iconst (v := (1 : Int32)) (by decide) dX12_isLine_432 ?_
            obtain rfl := Option.some.inj h
            exact q_iret rfl (by decide) dX12_isLine_433 hQ
          by_cases n78 : r10 = (68 : Int32)
          · exact q_tabIn (M := mX12_isLine) (pc := 188) (x := r10) 432 (by rw [n78]; decide) (by rw [n78]; decide) (by rw [n78]; rfl) (by decide) dX12_isLine_188 (K trivial)
          by_cases n79 : r10 = (71 : Int32)
          · exact q_tabIn (M := mX12_isLine) (pc := 188) (x := r10) 432 (by rw [n79]; decide) (by rw [n79]; decide) (by rw [n79]; rfl) (by decide) dX12_isLine_188 (K trivial)
          by_cases n80 : r10 = (72 : Int32)
          · exact q_tabIn (M := mX12_isLine) (pc := 188) (x := r10) 432 (by rw [n80]; decide) (by rw [n80]; decide) (by rw [n80]; rfl) (by decide) dX12_isLine_188 (K trivial)
          by_cases n81 : r10 = (74 : Int32)
          · exact q_tabIn (M := mX12_isLine) (pc := 188) (x := r10) 432 (by rw [n81]; decide) (by rw [n81]; decide) (by rw [n81]; rfl) (by decide) dX12_isLine_188 (K trivial)
          by_cases n82 : r10 = (77 : Int32)
          · exact q_tabIn (M := mX12_isLine) (pc := 188) (x := r10) 432 (by rw [n82]; decide) (by rw [n82]; decide) (by rw [n82]; rfl) (by decide) dX12_isLine_188 (K trivial)
          by_cases n83 : r10 = (79 : Int32)
          · exact q_tabIn (M := mX12_isLine) (pc := 188) (x := r10) 432 (by rw [n83]; decide) (by rw [n83]; decide) (by rw [n83]; rfl) (by decide) dX12_isLine_188 (K trivial)
          by_cases n84 : r10 = (80 : Int32)
          · exact q_tabIn (M := mX12_isLine) (pc := 188) (x := r10) 432 (by rw [n84]; decide) (by rw [n84]; decide) (by rw [n84]; rfl) (by decide) dX12_isLine_188 (K trivial)
          by_cases n85 : r10 = (81 : Int32)
          · exact q_tabIn (M := mX12_isLine) (pc := 188) (x := r10) 432 (by rw [n85]; decide) (by rw [n85]; decide) (by rw [n85]; rfl) (by decide) dX12_isLine_188 (K trivial)
          by_cases n86 : r10 = (82 : Int32)
          · exact q_tabIn (M := mX12_isLine) (pc := 188) (x := r10) 432 (by rw [n86]; decide) (by rw [n86]; decide) (by rw [n86]; rfl) (by decide) dX12_isLine_188 (K trivial)
          by_cases n87 : r10 = (83 : Int32)
          · exact q_tabIn (M := mX12_isLine) (pc := 188) (x := r10) 432 (by rw [n87]; decide) (by rw [n87]; decide) (by rw [n87]; rfl) (by decide) dX12_isLine_188 (K trivial)
          exact q_tabOut (M := mX12_isLine) (pc := 188) (x := r10) 432 (by have := lv_neT (a := 67) c13 (by decide); have := lv_neT (a := 69) c19 (by decide); have := lv_neT (a := 70) c33 (by decide); have := lv_neT (a := 73) c39 (by decide); have := lv_neT (a := 75) n76 (by decide); have := lv_neT (a := 78) n77 (by decide); have := lv_neT (a := 76) c56 (by decide); have := lv_neT (a := 84) c62 (by decide); have := lv_neT (a := 68) n78 (by decide); have := lv_neT (a := 71) n79 (by decide); have := lv_neT (a := 72) n80 (by decide); have := lv_neT (a := 74) n81 (by decide); have := lv_neT (a := 77) n82 (by decide); have := lv_neT (a := 79) n83 (by decide); have := lv_neT (a := 80) n84 (by decide); have := lv_neT (a := 81) n85 (by decide); have := lv_neT (a := 82) n86 (by decide); have := lv_neT (a := 83) n87 (by decide); omega) (by decide) dX12_isLine_188 (K trivial)
        · rw [if_neg c] at h
          refine q_aload_n 1 rfl rfl dX12_isLine_155 ?_
          refine q_aload_n 1 rfl rfl dX12_isLine_156 ?_
          refine q_aload_n 1 rfl rfl dX12_isLine_157 ?_
          refine q_getI (q_sh102 w) (by decide) (by decide) rfl lfX12_158 dX12_isLine_158 ?_
          obtain ⟨r88, e89, h⟩ := q_bind h
          refine q_callV (ci := 12) (d := 5) (Mc := mX12_isSmallName) (kc := 0) (nc := 0) [.int (S.2.1 102 11)] okX12_isSmallName (q_sh102 w) (by decide) rfl lmX12_186 inX12_isSmallName seX12_isSmallName rfl (Nat.le_of_ble_eq_true rfl) (Nat.le_of_ble_eq_true rfl) (Nat.le_refl _) (Nat.le_refl _) dX12_isLine_161 (q_L.deep (by decide) (kX12_isSmallName (Q := fun r S' => r = some (.int (q_b r88)) ∧ S' = S) w e89 ⟨rfl, rfl⟩)) (q_kI ?_)
          obtain ⟨r90, e91, h⟩ := q_bind h
          refine q_callV (ci := 12) (d := 5) (Mc := mX12_takes) (kc := 0) (nc := 0) [.int (q_b r88)] okX12_takes (q_sh102 w) (by decide) rfl lmX12_167 inX12_takes seX12_takes rfl (Nat.le_of_ble_eq_true rfl) (Nat.le_of_ble_eq_true rfl) (Nat.le_refl _) (Nat.le_refl _) dX12_isLine_164 (q_L.deep (by decide) (kX12_takes (Q := fun r S' => r = some (.int (q_b r90.1)) ∧ S' = r90.2) w e91 ⟨rfl, rfl⟩)) (q_kI ?_)
          have fx92 : q_Fx S r90.2 := q_Fx.tr (q_Fx.rf S) (fxX12_takes e91)
          refine q_if_eq 170 (by decide) dX12_isLine_167 (fun c => ?_) (fun c => ?_)
          · have c := q_b_0.mp c; rw [q_if0 c] at h
            refine q_iconst (v := (0 : Int32)) (by decide) dX12_isLine_170 ?_
            obtain rfl := Option.some.inj h
            exact q_iret rfl (by decide) dX12_isLine_171 hQ
          · have c := q_b_n.mp c; rw [q_if1 c] at h
            refine q_iconst (v := (0 : Int32)) (by decide) dX12_isLine_170 ?_
            obtain rfl := Option.some.inj h
            exact q_iret rfl (by decide) dX12_isLine_171 hQ
      · have c := q_b_n.mp c; rw [q_if1 c] at h
        refine q_aload_n 0 rfl rfl dX12_isLine_66 ?_
        refine q_dup rfl dX12_isLine_67 ?_
        refine q_getI (q_sh102 w) (by decide) (by decide) rfl lfX12_158 dX12_isLine_68 ?_
        refine q_iconst (v := (1 : Int32)) (by decide) dX12_isLine_71 ?_
        refine q_iadd dX12_isLine_72 ?_
        refine q_putI (q_sh102 w) (by decide) (by decide) rfl rfl ⟨rfl, rfl⟩ lfX12_158 dX12_isLine_73 ?_
        obtain ⟨S93, e94, h⟩ := q_bindS h
        refine q_st e94 ?_
        have fx95 : q_Fx S S93 := e94 ▸ q_Fx.sI (q_Fx.rf S)
        refine q_aload_n 0 rfl rfl dX12_isLine_76 ?_
        refine q_aload_n 0 rfl rfl dX12_isLine_77 ?_
        refine q_aload_n 0 rfl rfl dX12_isLine_78 ?_
        refine q_getI (q_sh102 (w.fx fx95)) (by decide) (by decide) rfl lfX12_158 dX12_isLine_79 ?_
        obtain ⟨r96, e97, h⟩ := q_bind h
        refine q_callV (ci := 12) (d := 5) (Mc := mX12_isSmallName) (kc := 0) (nc := 0) [.int (S93.2.1 102 11)] okX12_isSmallName (q_sh102 (w.fx fx95)) (by decide) rfl lmX12_186 inX12_isSmallName seX12_isSmallName rfl (Nat.le_of_ble_eq_true rfl) (Nat.le_of_ble_eq_true rfl) (Nat.le_refl _) (Nat.le_refl _) dX12_isLine_82 (q_L.deep (by decide) (kX12_isSmallName (Q := fun r S' => r = some (.int (q_b r96)) ∧ S' = S93) (w.fx fx95) e97 ⟨rfl, rfl⟩)) (q_kI ?_)
        obtain ⟨r98, e99, h⟩ := q_bind h
        refine q_callV (ci := 12) (d := 5) (Mc := mX12_takes) (kc := 0) (nc := 0) [.int (q_b r96)] okX12_takes (q_sh102 (w.fx fx95)) (by decide) rfl lmX12_167 inX12_takes seX12_takes rfl (Nat.le_of_ble_eq_true rfl) (Nat.le_of_ble_eq_true rfl) (Nat.le_refl _) (Nat.le_refl _) dX12_isLine_85 (q_L.deep (by decide) (kX12_takes (Q := fun r S' => r = some (.int (q_b r98.1)) ∧ S' = r98.2) (w.fx fx95) e99 ⟨rfl, rfl⟩)) (q_kI ?_)
        have fx100 : q_Fx S r98.2 := q_Fx.tr (fx95) (fxX12_takes e99)
        refine q_if_eq 140 (by decide) dX12_isLine_88 (fun c => ?_) (fun c => ?_)
        · have c := q_b_0.mp c; rw [q_if0 c] at h
          refine q_iconst (v := (0 : Int32)) (by decide) dX12_isLine_140 ?_
          obtain rfl := Option.some.inj h
          exact q_iret rfl (by decide) dX12_isLine_141 hQ
        · have c := q_b_n.mp c; rw [q_if1 c] at h
          refine q_aload_n 0 rfl rfl dX12_isLine_91 ?_
          refine q_aload_n 0 rfl rfl dX12_isLine_92 ?_
          refine q_aload_n 0 rfl rfl dX12_isLine_93 ?_
          refine q_getI (q_sh102 (w.fx fx100)) (by decide) (by decide) rfl lfX12_158 dX12_isLine_94 ?_
          obtain ⟨r101, e102, h⟩ := q_bind h
          refine q_callV (ci := 12) (d := 5) (Mc := mX12_isSmallName) (kc := 0) (nc := 0) [.int (r98.2.2.1 102 11)] okX12_isSmallName (q_sh102 (w.fx fx100)) (by decide) rfl lmX12_186 inX12_isSmallName seX12_isSmallName rfl (Nat.le_of_ble_eq_true rfl) (Nat.le_of_ble_eq_true rfl) (Nat.le_refl _) (Nat.le_refl _) dX12_isLine_97 (q_L.deep (by decide) (kX12_isSmallName (Q := fun r S' => r = some (.int (q_b r101)) ∧ S' = r98.2) (w.fx fx100) e102 ⟨rfl, rfl⟩)) (q_kI ?_)
          obtain ⟨r103, e104, h⟩ := q_bind h
          refine q_callV (ci := 12) (d := 5) (Mc := mX12_takes) (kc := 0) (nc := 0) [.int (q_b r101)] okX12_takes (q_sh102 (w.fx fx100)) (by decide) rfl lmX12_167 inX12_takes seX12_takes rfl (Nat.le_of_ble_eq_true rfl) (Nat.le_of_ble_eq_true rfl) (Nat.le_refl _) (Nat.le_refl _) dX12_isLine_100 (q_L.deep (by decide) (kX12_takes (Q := fun r S' => r = some (.int (q_b r103.1)) ∧ S' = r103.2) (w.fx fx100) e104 ⟨rfl, rfl⟩)) (q_kI ?_)
          have fx105 : q_Fx S r103.2 := q_Fx.tr (fx100) (fxX12_takes e104)
          refine q_if_eq 140 (by decide) dX12_isLine_103 (fun c => ?_) (fun c => ?_)
          · have c := q_b_0.mp c; rw [q_if0 c] at h
            refine q_iconst (v := (0 : Int32)) (by decide) dX12_isLine_140 ?_
            obtain rfl := Option.some.inj h
            exact q_iret rfl (by decide) dX12_isLine_141 hQ
          · have c := q_b_n.mp c; rw [q_if1 c] at h
            refine q_aload_n 0 rfl rfl dX12_isLine_106 ?_
            refine q_aload_n 0 rfl rfl dX12_isLine_107 ?_
            refine q_aload_n 0 rfl rfl dX12_isLine_108 ?_
            refine q_getI (q_sh102 (w.fx fx105)) (by decide) (by decide) rfl lfX12_158 dX12_isLine_109 ?_
            obtain ⟨r106, e107, h⟩ := q_bind h
            refine q_callV (ci := 12) (d := 5) (Mc := mX12_isSmallName) (kc := 0) (nc := 0) [.int (r103.2.2.1 102 11)] okX12_isSmallName (q_sh102 (w.fx fx105)) (by decide) rfl lmX12_186 inX12_isSmallName seX12_isSmallName rfl (Nat.le_of_ble_eq_true rfl) (Nat.le_of_ble_eq_true rfl) (Nat.le_refl _) (Nat.le_refl _) dX12_isLine_112 (q_L.deep (by decide) (kX12_isSmallName (Q := fun r S' => r = some (.int (q_b r106)) ∧ S' = r103.2) (w.fx fx105) e107 ⟨rfl, rfl⟩)) (q_kI ?_)
            obtain ⟨r108, e109, h⟩ := q_bind h
            refine q_callV (ci := 12) (d := 5) (Mc := mX12_takes) (kc := 0) (nc := 0) [.int (q_b r106)] okX12_takes (q_sh102 (w.fx fx105)) (by decide) rfl lmX12_167 inX12_takes seX12_takes rfl (Nat.le_of_ble_eq_true rfl) (Nat.le_of_ble_eq_true rfl) (Nat.le_refl _) (Nat.le_refl _) dX12_isLine_115 (q_L.deep (by decide) (kX12_takes (Q := fun r S' => r = some (.int (q_b r108.1)) ∧ S' = r108.2) (w.fx fx105) e109 ⟨rfl, rfl⟩)) (q_kI ?_)
            have fx110 : q_Fx S r108.2 := q_Fx.tr (fx105) (fxX12_takes e109)
            refine q_if_eq 140 (by decide) dX12_isLine_118 (fun c => ?_) (fun c => ?_)
            · have c := q_b_0.mp c; rw [q_if0 c] at h
              refine q_iconst (v := (0 : Int32)) (by decide) dX12_isLine_140 ?_
              obtain rfl := Option.some.inj h
              exact q_iret rfl (by decide) dX12_isLine_141 hQ
            · have c := q_b_n.mp c; rw [q_if1 c] at h
              refine q_aload_n 0 rfl rfl dX12_isLine_121 ?_
              refine q_aload_n 0 rfl rfl dX12_isLine_122 ?_
              refine q_aload_n 0 rfl rfl dX12_isLine_123 ?_
              refine q_getI (q_sh102 (w.fx fx110)) (by decide) (by decide) rfl lfX12_158 dX12_isLine_124 ?_
              obtain ⟨r111, e112, h⟩ := q_bind h
              refine q_callV (ci := 12) (d := 5) (Mc := mX12_isClassName) (kc := 0) (nc := 0) [.int (r108.2.2.1 102 11)] okX12_isClassName (q_sh102 (w.fx fx110)) (by decide) rfl lmX12_171 inX12_isClassName seX12_isClassName rfl (Nat.le_of_ble_eq_true rfl) (Nat.le_of_ble_eq_true rfl) (Nat.le_refl _) (Nat.le_refl _) dX12_isLine_127 (q_L.deep (by decide) (kX12_isClassName (Q := fun r S' => r = some (.int (q_b r111)) ∧ S' = r108.2) (w.fx fx110) e112 ⟨rfl, rfl⟩)) (q_kI ?_)
              obtain ⟨r113, e114, h⟩ := q_bind h
              refine q_callV (ci := 12) (d := 5) (Mc := mX12_takes) (kc := 0) (nc := 0) [.int (q_b r111)] okX12_takes (q_sh102 (w.fx fx110)) (by decide) rfl lmX12_167 inX12_takes seX12_takes rfl (Nat.le_of_ble_eq_true rfl) (Nat.le_of_ble_eq_true rfl) (Nat.le_refl _) (Nat.le_refl _) dX12_isLine_130 (q_L.deep (by decide) (kX12_takes (Q := fun r S' => r = some (.int (q_b r113.1)) ∧ S' = r113.2) (w.fx fx110) e114 ⟨rfl, rfl⟩)) (q_kI ?_)
              have fx115 : q_Fx S r113.2 := q_Fx.tr (fx110) (fxX12_takes e114)
              refine q_if_eq 140 (by decide) dX12_isLine_133 (fun c => ?_) (fun c => ?_)
              · have c := q_b_0.mp c; rw [q_if0 c] at h
                refine q_iconst (v := (0 : Int32)) (by decide) dX12_isLine_140 ?_
                obtain rfl := Option.some.inj h
                exact q_iret rfl (by decide) dX12_isLine_141 hQ
              · have c := q_b_n.mp c; rw [q_if1 c] at h
                refine q_iconst (v := (1 : Int32)) (by decide) dX12_isLine_136 ?_
                refine q_goto 141 (by decide) dX12_isLine_137 ?_
                obtain rfl := Option.some.inj h
                exact q_iret rfl (by decide) dX12_isLine_141 hQ
    · have c := q_b_n.mp c; rw [q_if1 c] at h
      refine q_aload_n 0 rfl rfl dX12_isLine_24 ?_
      refine q_aload_n 0 rfl rfl dX12_isLine_25 ?_
      refine q_aload_n 0 rfl rfl dX12_isLine_26 ?_
      refine q_getI (q_sh102 w) (by decide) (by decide) rfl lfX12_158 dX12_isLine_27 ?_
      obtain ⟨r116, e117, h⟩ := q_bind h
      refine q_callV (ci := 12) (d := 5) (Mc := mX12_isSmallName) (kc := 0) (nc := 0) [.int (S.2.1 102 11)] okX12_isSmallName (q_sh102 w) (by decide) rfl lmX12_186 inX12_isSmallName seX12_isSmallName rfl (Nat.le_of_ble_eq_true rfl) (Nat.le_of_ble_eq_true rfl) (Nat.le_refl _) (Nat.le_refl _) dX12_isLine_30 (q_L.deep (by decide) (kX12_isSmallName (Q := fun r S' => r = some (.int (q_b r116)) ∧ S' = S) w e117 ⟨rfl, rfl⟩)) (q_kI ?_)
      obtain ⟨r118, e119, h⟩ := q_bind h
      refine q_callV (ci := 12) (d := 5) (Mc := mX12_takes) (kc := 0) (nc := 0) [.int (q_b r116)] okX12_takes (q_sh102 w) (by decide) rfl lmX12_167 inX12_takes seX12_takes rfl (Nat.le_of_ble_eq_true rfl) (Nat.le_of_ble_eq_true rfl) (Nat.le_refl _) (Nat.le_refl _) dX12_isLine_33 (q_L.deep (by decide) (kX12_takes (Q := fun r S' => r = some (.int (q_b r118.1)) ∧ S' = r118.2) w e119 ⟨rfl, rfl⟩)) (q_kI ?_)
      have fx120 : q_Fx S r118.2 := q_Fx.tr (q_Fx.rf S) (fxX12_takes e119)
      refine q_if_eq 51 (by decide) dX12_isLine_36 (fun c => ?_) (fun c => ?_)
      · have c := q_b_0.mp c; rw [q_if0 c] at h
        refine q_iconst (v := (0 : Int32)) (by decide) dX12_isLine_51 ?_
        obtain rfl := Option.some.inj h
        exact q_iret rfl (by decide) dX12_isLine_52 hQ
      · have c := q_b_n.mp c; rw [q_if1 c] at h
        refine q_aload_n 0 rfl rfl dX12_isLine_39 ?_
        refine q_iconst (v := (1 : Int32)) (by decide) dX12_isLine_40 ?_
        obtain ⟨r121, e122, h⟩ := q_bind h
        refine q_callV (ci := 12) (d := 5) (Mc := mX12_takes) (kc := 0) (nc := 0) [.int (1 : Int32)] okX12_takes (q_sh102 (w.fx fx120)) (by decide) rfl lmX12_167 inX12_takes seX12_takes rfl (Nat.le_of_ble_eq_true rfl) (Nat.le_of_ble_eq_true rfl) (Nat.le_refl _) (Nat.le_refl _) dX12_isLine_41 (q_L.deep (by decide) (kX12_takes (Q := fun r S' => r = some (.int (q_b r121.1)) ∧ S' = r121.2) (w.fx fx120) e122 ⟨rfl, rfl⟩)) (q_kI ?_)
        have fx123 : q_Fx S r121.2 := q_Fx.tr (fx120) (fxX12_takes e122)
        refine q_if_eq 51 (by decide) dX12_isLine_44 (fun c => ?_) (fun c => ?_)
        · have c := q_b_0.mp c; rw [q_if0 c] at h
          refine q_iconst (v := (0 : Int32)) (by decide) dX12_isLine_51 ?_
          obtain rfl := Option.some.inj h
          exact q_iret rfl (by decide) dX12_isLine_52 hQ
        · have c := q_b_n.mp c; rw [q_if1 c] at h
          refine q_iconst (v := (1 : Int32)) (by decide) dX12_isLine_47 ?_
          refine q_goto 52 (by decide) dX12_isLine_48 ?_
          obtain rfl := Option.some.inj h
          exact q_iret rfl (by decide) dX12_isLine_52 hQ
  · rw [if_neg c] at h
    refine q_iconst (v := (0 : Int32)) (by decide) dX12_isLine_11 ?_
    obtain rfl := Option.some.inj h
    exact q_iret rfl (by decide) dX12_isLine_12 hQ
