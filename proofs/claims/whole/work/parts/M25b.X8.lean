set_option maxRecDepth 20000 in
theorem kX8_isClassName {S : QS} {g : QG} {Q : Option Value → QS → Prop}  {x1 : Int32} {r : Bool} (w : q_Wire S) (h : fX8_isClassName S x1 = some r) (hQ : Q (some (.int (q_b r))) S) : q_M g mX8_isClassName 1 0 0 [.ref 2, .int x1] S Q := by
  unfold fX8_isClassName at h
  show q_L g mX8_isClassName 1 0 0 Q 0 0 0 [(0, .ref 2), (1, .int x1)] [] S
  refine q_iload_n 1 rfl rfl dX8_isClassName_0 ?_
  refine q_if_lt 37 (by decide) dX8_isClassName_1 (fun c => ?_) (fun c => ?_)
  · rw [if_pos c] at h
    refine q_iconst (v := (0 : Int32)) (by decide) dX8_isClassName_37 ?_
    obtain rfl := Option.some.inj h
    exact q_iret rfl (by decide) dX8_isClassName_38 hQ
  · rw [if_neg c] at h
    refine q_iload_n 1 rfl rfl dX8_isClassName_4 ?_
    refine q_aload_n 0 rfl rfl dX8_isClassName_5 ?_
    refine q_getI (q_sh2 w) (by decide) (by decide) rfl lfX8_29 dX8_isClassName_6 ?_
    refine q_icmp_ge 37 (by decide) dX8_isClassName_9 (fun c => ?_) (fun c => ?_)
    · rw [if_pos c] at h
      refine q_iconst (v := (0 : Int32)) (by decide) dX8_isClassName_37 ?_
      obtain rfl := Option.some.inj h
      exact q_iret rfl (by decide) dX8_isClassName_38 hQ
    · rw [if_neg c] at h
      refine q_aload_n 0 rfl rfl dX8_isClassName_12 ?_
      refine q_aload_n 0 rfl rfl dX8_isClassName_13 ?_
      refine q_getR (q_sh2 w) (by decide) (by decide) rfl lfX8_15 dX8_isClassName_14 (r := 4) (q_wr2_2 w) ?_
      refine q_iload_n 1 rfl rfl dX8_isClassName_17 ?_
      obtain ⟨hg1, h⟩ := q_guard h
      refine q_iald (q_sh4 w) (q_inb_in hg1) dX8_isClassName_18 ?_
      refine q_aload_n 0 rfl rfl dX8_isClassName_19 ?_
      refine q_getR (q_sh2 w) (by decide) (by decide) rfl lfX8_19 dX8_isClassName_20 (r := 5) (q_wr2_3 w) ?_
      refine q_iload_n 1 rfl rfl dX8_isClassName_23 ?_
      obtain ⟨hg2, h⟩ := q_guard h
      refine q_iald (q_sh5 w) (q_inb_in hg2) dX8_isClassName_24 ?_
      refine q_bipush (v := (65 : Int32)) (by decide) dX8_isClassName_25 ?_
      obtain ⟨r3, e4, h⟩ := q_bind h
      refine q_callV (ci := 8) (d := 0) (Mc := mX8_isNamed) (kc := 0) (nc := 0) [.int (S.2.1 4 x1.toNatClampNeg), .int (S.2.1 5 x1.toNatClampNeg), .int (65 : Int32)] okX8_isNamed (q_sh2 w) (by decide) rfl lmX8_45 inX8_isNamed seX8_isNamed rfl (Nat.le_of_ble_eq_true rfl) (Nat.le_of_ble_eq_true rfl) (Nat.le_refl _) (Nat.le_refl _) dX8_isClassName_27 (q_L.deep (by decide) (kX8_isNamed (Q := fun r S' => r = some (.int (q_b r3)) ∧ S' = S) w e4 ⟨rfl, rfl⟩)) (q_kI ?_)
      refine q_if_eq 37 (by decide) dX8_isClassName_30 (fun c => ?_) (fun c => ?_)
      · have c := q_b_0.mp c; rw [q_if0 c] at h
        refine q_iconst (v := (0 : Int32)) (by decide) dX8_isClassName_37 ?_
        obtain rfl := Option.some.inj h
        exact q_iret rfl (by decide) dX8_isClassName_38 hQ
      · have c := q_b_n.mp c; rw [q_if1 c] at h
        refine q_iconst (v := (1 : Int32)) (by decide) dX8_isClassName_33 ?_
        refine q_goto 38 (by decide) dX8_isClassName_34 ?_
        obtain rfl := Option.some.inj h
        exact q_iret rfl (by decide) dX8_isClassName_38 hQ
set_option maxRecDepth 20000 in
theorem sX8_dotOf_19 {S : QS} {g : QG} {Q : Option Value → QS → Prop}  {y1 : Int32} {x : Int32} {z : (Int32) ⊕ (Int32)} (w : q_Wire S) (h : tX8_dotOf_19 S y1 x = some z) (hQ : (Sum.elim (fun r0 : Int32 => Q (some (.int r0)) S) (fun y : Int32 => q_L g mX8_dotOf 0 0 0 Q 0 0 19 [(0, .ref 2), (1, .int y1), (2, .int y)] [] S) z)) : q_L g mX8_dotOf 0 0 0 Q 0 0 19 [(0, .ref 2), (1, .int y1), (2, .int x)] [] S := by
  unfold tX8_dotOf_19 at h
  refine q_iload_n 2 rfl rfl dX8_dotOf_19 ?_
  refine q_aload_n 0 rfl rfl dX8_dotOf_20 ?_
  refine q_getR (q_sh2 w) (by decide) (by decide) rfl lfX8_19 dX8_dotOf_21 (r := 5) (q_wr2_3 w) ?_
  refine q_iload_n 1 rfl rfl dX8_dotOf_24 ?_
  obtain ⟨hg1, h⟩ := q_guard h
  refine q_iald (q_sh5 w) (q_inb_in hg1) dX8_dotOf_25 ?_
  refine q_icmp_ge 48 (by decide) dX8_dotOf_26 (fun c => ?_) (fun c => ?_)
  · rw [if_pos c] at h
    refine q_iconst (v := (-1 : Int32)) (by decide) dX8_dotOf_48 ?_
    cases h
    exact q_iret rfl rfl dX8_dotOf_49 hQ
  · rw [if_neg c] at h
    refine q_aload_n 0 rfl rfl dX8_dotOf_29 ?_
    refine q_getR (q_sh2 w) (by decide) (by decide) rfl lfX8_9 dX8_dotOf_30 (r := 3) (q_wr2_0 w) ?_
    refine q_iload_n 2 rfl rfl dX8_dotOf_33 ?_
    obtain ⟨hg2, h⟩ := q_guard h
    refine q_bald (q_sh3 w) (q_inb_in hg2) dX8_dotOf_34 ?_
    refine q_bipush (v := (46 : Int32)) (by decide) dX8_dotOf_35 ?_
    refine q_icmp_ne 42 (by decide) dX8_dotOf_37 (fun c => ?_) (fun c => ?_)
    · rw [if_neg c] at h
      refine q_iinc (v := (x + (1 : Int32))) 2 [(2, .int (x + (1 : Int32))), (0, .ref 2), (1, .int y1)] (by decide) rfl (congrArg (fun t => x + t) (by decide)) rfl dX8_dotOf_42 ?_
      refine q_goto 19 (by decide) dX8_dotOf_45 ?_
      refine q_sub [1, 2, 0] rfl ?_
      cases h
      exact hQ
    · rw [if_pos c] at h
      refine q_iload_n 2 rfl rfl dX8_dotOf_40 ?_
      cases h
      exact q_iret rfl rfl dX8_dotOf_41 hQ
theorem lX8_dotOf_19 {S : QS} {g : QG} {Q : Option Value → QS → Prop}  {y1 : Int32} {r : Int32} (w : q_Wire S) (hQ : Q (some (.int r)) S) : ∀ (c : Nat) (x : Int32), q_it (tX8_dotOf_19 S y1) c x = some r → q_L g mX8_dotOf 0 0 0 Q 0 0 19 [(0, .ref 2), (1, .int y1), (2, .int x)] [] S := by
  intro c
  induction c with
  | zero => intro x  h; cases h
  | succ c ih =>
    intro x  h
    simp only [q_it] at h
    cases hz : tX8_dotOf_19 S y1 x with
    | none => rw [hz] at h; cases h
    | some z =>
      rw [hz] at h
      refine sX8_dotOf_19 w hz ?_
      rcases z with z | y
      · cases h; exact hQ
      · exact ih y  h
theorem kX8_dotOf_19 {S : QS} {g : QG} {Q : Option Value → QS → Prop}  {y1 : Int32} {y2 : Int32} {r : Int32} (w : q_Wire S) (h : fX8_dotOf_19 S y1 y2 = some r) (hQ : Q (some (.int r)) S) : q_L g mX8_dotOf 0 0 0 Q 0 0 19 [(0, .ref 2), (1, .int y1), (2, .int y2)] [] S := by
  obtain ⟨c, hc⟩ := q_run_it h
  exact lX8_dotOf_19 w hQ c y2  hc
set_option maxRecDepth 20000 in
theorem kX8_dotOf {S : QS} {g : QG} {Q : Option Value → QS → Prop}  {x1 : Int32} {r : Int32} (w : q_Wire S) (h : fX8_dotOf S x1 = some r) (hQ : Q (some (.int r)) S) : q_M g mX8_dotOf 0 0 0 [.ref 2, .int x1] S Q := by
  unfold fX8_dotOf at h
  show q_L g mX8_dotOf 0 0 0 Q 0 0 0 [(0, .ref 2), (1, .int x1)] [] S
  refine q_iload_n 1 rfl rfl dX8_dotOf_0 ?_
  refine q_if_lt 48 (by decide) dX8_dotOf_1 (fun c => ?_) (fun c => ?_)
  · rw [if_pos c] at h
    refine q_iconst (v := (-1 : Int32)) (by decide) dX8_dotOf_48 ?_
    obtain rfl := Option.some.inj h
    exact q_iret rfl rfl dX8_dotOf_49 hQ
  · rw [if_neg c] at h
    refine q_iload_n 1 rfl rfl dX8_dotOf_4 ?_
    refine q_aload_n 0 rfl rfl dX8_dotOf_5 ?_
    refine q_getI (q_sh2 w) (by decide) (by decide) rfl lfX8_29 dX8_dotOf_6 ?_
    refine q_icmp_ge 48 (by decide) dX8_dotOf_9 (fun c => ?_) (fun c => ?_)
    · rw [if_pos c] at h
      refine q_iconst (v := (-1 : Int32)) (by decide) dX8_dotOf_48 ?_
      obtain rfl := Option.some.inj h
      exact q_iret rfl rfl dX8_dotOf_49 hQ
    · rw [if_neg c] at h
      refine q_aload_n 0 rfl rfl dX8_dotOf_12 ?_
      refine q_getR (q_sh2 w) (by decide) (by decide) rfl lfX8_15 dX8_dotOf_13 (r := 4) (q_wr2_2 w) ?_
      refine q_iload_n 1 rfl rfl dX8_dotOf_16 ?_
      obtain ⟨hg3, h⟩ := q_guard h
      refine q_iald (q_sh4 w) (q_inb_in hg3) dX8_dotOf_17 ?_
      refine q_istore_n [(2, .int (S.2.1 4 x1.toNatClampNeg)), (0, .ref 2), (1, .int x1)] rfl (by decide) rfl dX8_dotOf_18 ?_
      refine q_sub [1, 2, 0] rfl ?_
      exact kX8_dotOf_19 w h hQ
set_option maxRecDepth 20000 in
theorem kX8_isReference {S : QS} {g : QG} {Q : Option Value → QS → Prop}  {x1 : Int32} {r : Bool} (w : q_Wire S) (h : fX8_isReference S x1 = some r) (hQ : Q (some (.int (q_b r))) S) : q_M g mX8_isReference 1 0 0 [.ref 2, .int x1] S Q := by
  unfold fX8_isReference at h
  show q_L g mX8_isReference 1 0 0 Q 0 0 0 [(0, .ref 2), (1, .int x1)] [] S
  refine q_aload_n 0 rfl rfl dX8_isReference_0 ?_
  refine q_iload_n 1 rfl rfl dX8_isReference_1 ?_
  obtain ⟨r1, e2, h⟩ := q_bind h
  refine q_callV (ci := 8) (d := 0) (Mc := mX8_dotOf) (kc := 0) (nc := 0) [.int x1] okX8_dotOf (q_sh2 w) (by decide) rfl lmX8_49 inX8_dotOf seX8_dotOf rfl (Nat.le_of_ble_eq_true rfl) (Nat.le_of_ble_eq_true rfl) (Nat.le_refl _) (Nat.le_refl _) dX8_isReference_2 (q_L.deep (by decide) (kX8_dotOf (Q := fun r S' => r = some (.int r1) ∧ S' = S) w e2 ⟨rfl, rfl⟩)) (q_kI ?_)
  refine q_istore_n [(2, .int r1), (0, .ref 2), (1, .int x1)] rfl (by decide) rfl dX8_isReference_5 ?_
  refine q_iload_n 0 rfl rfl dX8_isReference_6 ?_
  refine q_if_lt 48 (by decide) dX8_isReference_7 (fun c => ?_) (fun c => ?_)
  · rw [if_pos c] at h
    refine q_iconst (v := (0 : Int32)) (by decide) dX8_isReference_48 ?_
    obtain rfl := Option.some.inj h
    exact q_iret rfl (by decide) dX8_isReference_49 hQ
  · rw [if_neg c] at h
    refine q_aload_n 1 rfl rfl dX8_isReference_10 ?_
    refine q_aload_n 1 rfl rfl dX8_isReference_11 ?_
    refine q_getR (q_sh2 w) (by decide) (by decide) rfl lfX8_15 dX8_isReference_12 (r := 4) (q_wr2_2 w) ?_
    refine q_iload_n 2 rfl rfl dX8_isReference_15 ?_
    obtain ⟨hg3, h⟩ := q_guard h
    refine q_iald (q_sh4 w) (q_inb_in hg3) dX8_isReference_16 ?_
    refine q_iload_n 0 rfl rfl dX8_isReference_17 ?_
    refine q_bipush (v := (65 : Int32)) (by decide) dX8_isReference_18 ?_
    obtain ⟨r4, e5, h⟩ := q_bind h
    refine q_callV (ci := 8) (d := 0) (Mc := mX8_isNamed) (kc := 0) (nc := 0) [.int (S.2.1 4 x1.toNatClampNeg), .int r1, .int (65 : Int32)] okX8_isNamed (q_sh2 w) (by decide) rfl lmX8_45 inX8_isNamed seX8_isNamed rfl (Nat.le_of_ble_eq_true rfl) (Nat.le_of_ble_eq_true rfl) (Nat.le_refl _) (Nat.le_refl _) dX8_isReference_20 (q_L.deep (by decide) (kX8_isNamed (Q := fun r S' => r = some (.int (q_b r4)) ∧ S' = S) w e5 ⟨rfl, rfl⟩)) (q_kI ?_)
    refine q_if_eq 48 (by decide) dX8_isReference_23 (fun c => ?_) (fun c => ?_)
    · have c := q_b_0.mp c; rw [q_if0 c] at h
      refine q_iconst (v := (0 : Int32)) (by decide) dX8_isReference_48 ?_
      obtain rfl := Option.some.inj h
      exact q_iret rfl (by decide) dX8_isReference_49 hQ
    · have c := q_b_n.mp c; rw [q_if1 c] at h
      refine q_aload_n 1 rfl rfl dX8_isReference_26 ?_
      refine q_iload_n 0 rfl rfl dX8_isReference_27 ?_
      refine q_iconst (v := (1 : Int32)) (by decide) dX8_isReference_28 ?_
      refine q_iadd dX8_isReference_29 ?_
      refine q_aload_n 1 rfl rfl dX8_isReference_30 ?_
      refine q_getR (q_sh2 w) (by decide) (by decide) rfl lfX8_19 dX8_isReference_31 (r := 5) (q_wr2_3 w) ?_
      refine q_iload_n 2 rfl rfl dX8_isReference_34 ?_
      obtain ⟨hg6, h⟩ := q_guard h
      refine q_iald (q_sh5 w) (q_inb_in hg6) dX8_isReference_35 ?_
      refine q_bipush (v := (97 : Int32)) (by decide) dX8_isReference_36 ?_
      obtain ⟨r7, e8, h⟩ := q_bind h
      refine q_callV (ci := 8) (d := 0) (Mc := mX8_isNamed) (kc := 0) (nc := 0) [.int (r1 + (1 : Int32)), .int (S.2.1 5 x1.toNatClampNeg), .int (97 : Int32)] okX8_isNamed (q_sh2 w) (by decide) rfl lmX8_45 inX8_isNamed seX8_isNamed rfl (Nat.le_of_ble_eq_true rfl) (Nat.le_of_ble_eq_true rfl) (Nat.le_refl _) (Nat.le_refl _) dX8_isReference_38 (q_L.deep (by decide) (kX8_isNamed (Q := fun r S' => r = some (.int (q_b r7)) ∧ S' = S) w e8 ⟨rfl, rfl⟩)) (q_kI ?_)
      refine q_if_eq 48 (by decide) dX8_isReference_41 (fun c => ?_) (fun c => ?_)
      · have c := q_b_0.mp c; rw [q_if0 c] at h
        refine q_iconst (v := (0 : Int32)) (by decide) dX8_isReference_48 ?_
        obtain rfl := Option.some.inj h
        exact q_iret rfl (by decide) dX8_isReference_49 hQ
      · have c := q_b_n.mp c; rw [q_if1 c] at h
        refine q_iconst (v := (1 : Int32)) (by decide) dX8_isReference_44 ?_
        refine q_goto 49 (by decide) dX8_isReference_45 ?_
        obtain rfl := Option.some.inj h
        exact q_iret rfl (by decide) dX8_isReference_49 hQ
set_option maxRecDepth 20000 in
theorem kX8_elementStop {S : QS} {g : QG} {Q : Option Value → QS → Prop}  {x1 : Int32} {r : Int32} (w : q_Wire S) (h : fX8_elementStop S x1 = some r) (hQ : Q (some (.int r)) S) : q_M g mX8_elementStop 5 0 0 [.ref 2, .int x1] S Q := by
  unfold fX8_elementStop at h
  show q_L g mX8_elementStop 5 0 0 Q 0 0 0 [(0, .ref 2), (1, .int x1)] [] S
  refine q_aload_n 0 rfl rfl dX8_elementStop_0 ?_
  refine q_iload_n 1 rfl rfl dX8_elementStop_1 ?_
  obtain ⟨r1, e2, h⟩ := q_bind h
  refine q_callV (ci := 8) (d := 4) (Mc := mX8_stop) (kc := 0) (nc := 0) [.int x1] okX8_stop (q_sh2 w) (by decide) rfl lmX8_61 inX8_stop seX8_stop rfl (Nat.le_of_ble_eq_true rfl) (Nat.le_of_ble_eq_true rfl) (Nat.le_refl _) (Nat.le_refl _) dX8_elementStop_2 (q_L.deep (by decide) (kX8_stop (Q := fun r S' => r = some (.int r1) ∧ S' = S) w e2 ⟨rfl, rfl⟩)) (q_kI ?_)
  refine q_istore_n [(2, .int r1), (0, .ref 2), (1, .int x1)] rfl (by decide) rfl dX8_elementStop_5 ?_
  refine q_iload_n 0 rfl rfl dX8_elementStop_6 ?_
  refine q_iconst (v := (2 : Int32)) (by decide) dX8_elementStop_7 ?_
  refine q_isub dX8_elementStop_8 ?_
  refine q_aload_n 1 rfl rfl dX8_elementStop_9 ?_
  refine q_iload_n 2 rfl rfl dX8_elementStop_10 ?_
  obtain ⟨r3, e4, h⟩ := q_bind h
  refine q_callV (ci := 8) (d := 4) (Mc := mX8_start) (kc := 0) (nc := 0) [.int x1] okX8_start (q_sh2 w) (by decide) rfl lmX8_53 inX8_start seX8_start rfl (Nat.le_of_ble_eq_true rfl) (Nat.le_of_ble_eq_true rfl) (Nat.le_refl _) (Nat.le_refl _) dX8_elementStop_11 (q_L.deep (by decide) (kX8_start (Q := fun r S' => r = some (.int r3) ∧ S' = S) w e4 ⟨rfl, rfl⟩)) (q_kI ?_)
  refine q_icmp_lt 36 (by decide) dX8_elementStop_14 (fun c => ?_) (fun c => ?_)
  · rw [if_pos c] at h
    refine q_iload_n 0 rfl rfl dX8_elementStop_36 ?_
    obtain rfl := Option.some.inj h
    exact q_iret rfl rfl dX8_elementStop_37 hQ
  · rw [if_neg c] at h
    refine q_aload_n 1 rfl rfl dX8_elementStop_17 ?_
    refine q_iload_n 0 rfl rfl dX8_elementStop_18 ?_
    refine q_iconst (v := (2 : Int32)) (by decide) dX8_elementStop_19 ?_
    refine q_isub dX8_elementStop_20 ?_
    refine q_iload_n 0 rfl rfl dX8_elementStop_21 ?_
    refine q_ldcS (j := 1) (r := 1000002) rfl rfl dX8_elementStop_22 ?_
    obtain ⟨r5, e6, h⟩ := q_bind h
    refine q_callV (ci := 8) (d := 4) (Mc := mX8_isText) (kc := 0) (nc := 0) [.int (r1 - (2 : Int32)), .int r1, .ref 1000002] okX8_isText (q_sh2 w) (by decide) rfl lmX8_32 inX8_isText seX8_isText rfl (Nat.le_of_ble_eq_true rfl) (Nat.le_of_ble_eq_true rfl) (Nat.le_refl _) (Nat.le_refl _) dX8_elementStop_24 (q_L.deep (by decide) (kX8_isText (Q := fun r S' => r = some (.int (q_b r5)) ∧ S' = S) w e6 ⟨rfl, rfl⟩)) (q_kI ?_)
    refine q_if_eq 36 (by decide) dX8_elementStop_27 (fun c => ?_) (fun c => ?_)
    · have c := q_b_0.mp c; rw [q_if0 c] at h
      refine q_iload_n 0 rfl rfl dX8_elementStop_36 ?_
      obtain rfl := Option.some.inj h
      exact q_iret rfl rfl dX8_elementStop_37 hQ
    · have c := q_b_n.mp c; rw [q_if1 c] at h
      refine q_iload_n 0 rfl rfl dX8_elementStop_30 ?_
      refine q_iconst (v := (2 : Int32)) (by decide) dX8_elementStop_31 ?_
      refine q_isub dX8_elementStop_32 ?_
      refine q_goto 37 (by decide) dX8_elementStop_33 ?_
      obtain rfl := Option.some.inj h
      exact q_iret rfl rfl dX8_elementStop_37 hQ
set_option maxRecDepth 20000 in
theorem kX8_isType {S : QS} {g : QG} {Q : Option Value → QS → Prop}  {x1 : Int32} {r : Bool} (w : q_Wire S) (h : fX8_isType S x1 = some r) (hQ : Q (some (.int (q_b r))) S) : q_M g mX8_isType 6 0 0 [.ref 2, .int x1] S Q := by
  unfold fX8_isType at h
  show q_L g mX8_isType 6 0 0 Q 0 0 0 [(0, .ref 2), (1, .int x1)] [] S
  refine q_aload_n 0 rfl rfl dX8_isType_0 ?_
  refine q_iload_n 1 rfl rfl dX8_isType_1 ?_
  obtain ⟨r1, e2, h⟩ := q_bind h
  refine q_callV (ci := 8) (d := 5) (Mc := mX8_start) (kc := 0) (nc := 0) [.int x1] okX8_start (q_sh2 w) (by decide) rfl lmX8_53 inX8_start seX8_start rfl (Nat.le_of_ble_eq_true rfl) (Nat.le_of_ble_eq_true rfl) (Nat.le_refl _) (Nat.le_refl _) dX8_isType_2 (q_L.deep (by decide) (kX8_start (Q := fun r S' => r = some (.int r1) ∧ S' = S) w e2 ⟨rfl, rfl⟩)) (q_kI ?_)
  refine q_istore_n [(2, .int r1), (0, .ref 2), (1, .int x1)] rfl (by decide) rfl dX8_isType_5 ?_
  refine q_aload_n 1 rfl rfl dX8_isType_6 ?_
  refine q_iload_n 2 rfl rfl dX8_isType_7 ?_
  obtain ⟨r3, e4, h⟩ := q_bind h
  refine q_callV (ci := 8) (d := 5) (Mc := mX8_elementStop) (kc := 0) (nc := 0) [.int x1] okX8_elementStop (q_sh2 w) (by decide) rfl lmX8_56 inX8_elementStop seX8_elementStop rfl (Nat.le_of_ble_eq_true rfl) (Nat.le_of_ble_eq_true rfl) (Nat.le_refl _) (Nat.le_refl _) dX8_isType_8 (q_L.deep (by decide) (kX8_elementStop (Q := fun r S' => r = some (.int r3) ∧ S' = S) w e4 ⟨rfl, rfl⟩)) (q_kI ?_)
  refine q_istore_n [(3, .int r3), (2, .int r1), (0, .ref 2), (1, .int x1)] rfl (by decide) rfl dX8_isType_11 ?_
  refine q_aload_n 2 rfl rfl dX8_isType_12 ?_
  refine q_iload_n 1 rfl rfl dX8_isType_13 ?_
  refine q_iload_n 0 rfl rfl dX8_isType_14 ?_
  refine q_ldcS (j := 2) (r := 1000004) rfl rfl dX8_isType_15 ?_
  obtain ⟨r5, e6, h⟩ := q_bind h
  refine q_callV (ci := 8) (d := 5) (Mc := mX8_isText) (kc := 0) (nc := 0) [.int r1, .int r3, .ref 1000004] okX8_isText (q_sh2 w) (by decide) rfl lmX8_32 inX8_isText seX8_isText rfl (Nat.le_of_ble_eq_true rfl) (Nat.le_of_ble_eq_true rfl) (Nat.le_refl _) (Nat.le_refl _) dX8_isType_17 (q_L.deep (by decide) (kX8_isText (Q := fun r S' => r = some (.int (q_b r5)) ∧ S' = S) w e6 ⟨rfl, rfl⟩)) (q_kI ?_)
  refine q_if_ne 34 (by decide) dX8_isType_20 (fun c => ?_) (fun c => ?_)
  · have c := q_b_n.mp c; rw [q_if1 c] at h
    refine q_iconst (v := (1 : Int32)) (by decide) dX8_isType_34 ?_
    refine q_goto 39 (by decide) dX8_isType_35 ?_
    obtain rfl := Option.some.inj h
    exact q_iret rfl (by decide) dX8_isType_39 hQ
  · have c := q_b_0.mp c; rw [q_if0 c] at h
    refine q_aload_n 2 rfl rfl dX8_isType_23 ?_
    refine q_iload_n 1 rfl rfl dX8_isType_24 ?_
    refine q_iload_n 0 rfl rfl dX8_isType_25 ?_
    refine q_bipush (v := (65 : Int32)) (by decide) dX8_isType_26 ?_
    obtain ⟨r7, e8, h⟩ := q_bind h
    refine q_callV (ci := 8) (d := 5) (Mc := mX8_isNamed) (kc := 0) (nc := 0) [.int r1, .int r3, .int (65 : Int32)] okX8_isNamed (q_sh2 w) (by decide) rfl lmX8_45 inX8_isNamed seX8_isNamed rfl (Nat.le_of_ble_eq_true rfl) (Nat.le_of_ble_eq_true rfl) (Nat.le_refl _) (Nat.le_refl _) dX8_isType_28 (q_L.deep (by decide) (kX8_isNamed (Q := fun r S' => r = some (.int (q_b r7)) ∧ S' = S) w e8 ⟨rfl, rfl⟩)) (q_kI ?_)
    refine q_if_eq 38 (by decide) dX8_isType_31 (fun c => ?_) (fun c => ?_)
    · have c := q_b_0.mp c; rw [q_if0 c] at h
      refine q_iconst (v := (0 : Int32)) (by decide) dX8_isType_38 ?_
      obtain rfl := Option.some.inj h
      exact q_iret rfl (by decide) dX8_isType_39 hQ
    · have c := q_b_n.mp c; rw [q_if1 c] at h
      refine q_iconst (v := (1 : Int32)) (by decide) dX8_isType_34 ?_
      refine q_goto 39 (by decide) dX8_isType_35 ?_
      obtain rfl := Option.some.inj h
      exact q_iret rfl (by decide) dX8_isType_39 hQ
set_option maxRecDepth 20000 in
theorem sX8_longOf_47 {S : QS} {g : QG} {Q : Option Value → QS → Prop}  {y1 : Int32} {y2 : Int32} {x : Int64 × Int32} {z : (Int64) ⊕ (Int64 × Int32)} (w : q_Wire S) (h : tX8_longOf_47 S y1 y2 x = some z) (hQ : (Sum.elim (fun r0 : Int64 => Q (some (.long r0)) S) (fun y : Int64 × Int32 => q_L g mX8_longOf 0 0 0 Q 0 0 47 [(0, .ref 2), (1, .int y1), (2, .int y2), (3, .long y.1), (5, .int y.2)] [] S) z)) : q_L g mX8_longOf 0 0 0 Q 0 0 47 [(0, .ref 2), (1, .int y1), (2, .int y2), (3, .long x.1), (5, .int x.2)] [] S := by
  unfold tX8_longOf_47 at h
  refine q_iload 4 rfl dX8_longOf_47 ?_
  refine q_aload_n 0 rfl rfl dX8_longOf_49 ?_
  refine q_getR (q_sh2 w) (by decide) (by decide) rfl lfX8_19 dX8_longOf_50 (r := 5) (q_wr2_3 w) ?_
  refine q_iload_n 1 rfl rfl dX8_longOf_53 ?_
  obtain ⟨hg1, h⟩ := q_guard h
  refine q_iald (q_sh5 w) (q_inb_in hg1) dX8_longOf_54 ?_
  refine q_icmp_ge 82 (by decide) dX8_longOf_55 (fun c => ?_) (fun c => ?_)
  · rw [if_pos c] at h
    refine q_iload_n 2 rfl rfl dX8_longOf_82 ?_
    refine q_if_eq 91 (by decide) dX8_longOf_83 (fun c => ?_) (fun c => ?_)
    · rw [if_pos c] at h
      refine q_lload_n 3 rfl rfl dX8_longOf_91 ?_
      cases h
      exact q_lret rfl dX8_longOf_92 hQ
    · rw [if_neg c] at h
      refine q_lload_n 3 rfl rfl dX8_longOf_86 ?_
      refine q_lneg dX8_longOf_87 ?_
      refine q_goto 92 (by decide) dX8_longOf_88 ?_
      cases h
      exact q_lret rfl dX8_longOf_92 hQ
  · rw [if_neg c] at h
    refine q_lload_n 3 rfl rfl dX8_longOf_58 ?_
    refine q_ldc2 lkX8_74 dX8_longOf_59 ?_
    refine q_lmul dX8_longOf_62 ?_
    refine q_aload_n 0 rfl rfl dX8_longOf_63 ?_
    refine q_getR (q_sh2 w) (by decide) (by decide) rfl lfX8_9 dX8_longOf_64 (r := 3) (q_wr2_0 w) ?_
    refine q_iload 4 rfl dX8_longOf_67 ?_
    obtain ⟨hg2, h⟩ := q_guard h
    refine q_bald (q_sh3 w) (q_inb_in hg2) dX8_longOf_69 ?_
    refine q_bipush (v := (48 : Int32)) (by decide) dX8_longOf_70 ?_
    refine q_isub dX8_longOf_72 ?_
    refine q_i2l dX8_longOf_73 ?_
    refine q_ladd dX8_longOf_74 ?_
    refine q_lstore_n [(3, .long ((x.1 * (10 : Int64)) + ((S.2.1 3 x.2.toNatClampNeg) - (48 : Int32)).toInt64)), (0, .ref 2), (1, .int y1), (2, .int y2), (5, .int x.2)] rfl (by decide) rfl dX8_longOf_75 ?_
    refine q_iinc (v := (x.2 + (1 : Int32))) 4 [(5, .int (x.2 + (1 : Int32))), (3, .long ((x.1 * (10 : Int64)) + ((S.2.1 3 x.2.toNatClampNeg) - (48 : Int32)).toInt64)), (0, .ref 2), (1, .int y1), (2, .int y2)] (by decide) rfl (congrArg (fun t => x.2 + t) (by decide)) rfl dX8_longOf_76 ?_
    refine q_goto 47 (by decide) dX8_longOf_79 ?_
    refine q_sub [2, 3, 4, 1, 0] rfl ?_
    cases h
    exact hQ
theorem lX8_longOf_47 {S : QS} {g : QG} {Q : Option Value → QS → Prop}  {y1 : Int32} {y2 : Int32} {r : Int64} (w : q_Wire S) (hQ : Q (some (.long r)) S) : ∀ (c : Nat) (x : Int64 × Int32), q_it (tX8_longOf_47 S y1 y2) c x = some r → q_L g mX8_longOf 0 0 0 Q 0 0 47 [(0, .ref 2), (1, .int y1), (2, .int y2), (3, .long x.1), (5, .int x.2)] [] S := by
  intro c
  induction c with
  | zero => intro x  h; cases h
  | succ c ih =>
    intro x  h
    simp only [q_it] at h
    cases hz : tX8_longOf_47 S y1 y2 x with
    | none => rw [hz] at h; cases h
    | some z =>
      rw [hz] at h
      refine sX8_longOf_47 w hz ?_
      rcases z with z | y
      · cases h; exact hQ
      · exact ih y  h
theorem kX8_longOf_47 {S : QS} {g : QG} {Q : Option Value → QS → Prop}  {y1 : Int32} {y2 : Int32} {y3 : Int64} {y5 : Int32} {r : Int64} (w : q_Wire S) (h : fX8_longOf_47 S y1 y2 y3 y5 = some r) (hQ : Q (some (.long r)) S) : q_L g mX8_longOf 0 0 0 Q 0 0 47 [(0, .ref 2), (1, .int y1), (2, .int y2), (3, .long y3), (5, .int y5)] [] S := by
  obtain ⟨c, hc⟩ := q_run_it h
  exact lX8_longOf_47 w hQ c (y3, y5)  hc
set_option maxRecDepth 20000 in
theorem kX8_longOf {S : QS} {g : QG} {Q : Option Value → QS → Prop}  {x1 : Int32} {r : Int64} (w : q_Wire S) (h : fX8_longOf S x1 = some r) (hQ : Q (some (.long r)) S) : q_M g mX8_longOf 0 0 0 [.ref 2, .int x1] S Q := by
  unfold fX8_longOf at h
  show q_L g mX8_longOf 0 0 0 Q 0 0 0 [(0, .ref 2), (1, .int x1)] [] S
  refine q_aload_n 0 rfl rfl dX8_longOf_0 ?_
  refine q_getR (q_sh2 w) (by decide) (by decide) rfl lfX8_9 dX8_longOf_1 (r := 3) (q_wr2_0 w) ?_
  refine q_aload_n 0 rfl rfl dX8_longOf_4 ?_
  refine q_getR (q_sh2 w) (by decide) (by decide) rfl lfX8_15 dX8_longOf_5 (r := 4) (q_wr2_2 w) ?_
  refine q_iload_n 1 rfl rfl dX8_longOf_8 ?_
  obtain ⟨hg3, h⟩ := q_guard h
  refine q_iald (q_sh4 w) (q_inb_in hg3) dX8_longOf_9 ?_
  obtain ⟨hg4, h⟩ := q_guard h
  refine q_bald (q_sh3 w) (q_inb_in hg4) dX8_longOf_10 ?_
  refine q_bipush (v := (45 : Int32)) (by decide) dX8_longOf_11 ?_
  obtain ⟨v5, hv, h⟩ := q_bind h
  have K1 : q_L g mX8_longOf 0 0 0 Q 0 0 21 [(0, .ref 2), (1, .int x1)] [.int (q_b v5)] S := by
    refine q_istore_n [(2, .int (q_b v5)), (0, .ref 2), (1, .int x1)] rfl (by decide) rfl dX8_longOf_21 ?_
    refine q_lconst (v := (0 : Int64)) (by decide) dX8_longOf_22 ?_
    refine q_lstore_n [(3, .long (0 : Int64)), (2, .int (q_b v5)), (0, .ref 2), (1, .int x1)] rfl (by decide) rfl dX8_longOf_23 ?_
    refine q_iload_n 1 rfl rfl dX8_longOf_24 ?_
    refine q_if_eq 39 (by decide) dX8_longOf_25 (fun c => ?_) (fun c => ?_)
    · have c := q_b_0.mp c; rw [q_if0 c] at h
      refine q_aload_n 2 rfl rfl dX8_longOf_39 ?_
      refine q_getR (q_sh2 w) (by decide) (by decide) rfl lfX8_15 dX8_longOf_40 (r := 4) (q_wr2_2 w) ?_
      refine q_iload_n 3 rfl rfl dX8_longOf_43 ?_
      obtain ⟨hg6, h⟩ := q_guard h
      refine q_iald (q_sh4 w) (q_inb_in hg6) dX8_longOf_44 ?_
      refine q_istore [(5, .int (S.2.1 4 x1.toNatClampNeg)), (3, .long (0 : Int64)), (2, .int (q_b v5)), (0, .ref 2), (1, .int x1)] (by decide) rfl dX8_longOf_45 ?_
      refine q_sub [3, 4, 2, 1, 0] rfl ?_
      exact kX8_longOf_47 w h hQ
    · have c := q_b_n.mp c; rw [q_if1 c] at h
      refine q_aload_n 2 rfl rfl dX8_longOf_28 ?_
      refine q_getR (q_sh2 w) (by decide) (by decide) rfl lfX8_15 dX8_longOf_29 (r := 4) (q_wr2_2 w) ?_
      refine q_iload_n 3 rfl rfl dX8_longOf_32 ?_
      obtain ⟨hg7, h⟩ := q_guard h
      refine q_iald (q_sh4 w) (q_inb_in hg7) dX8_longOf_33 ?_
      refine q_iconst (v := (1 : Int32)) (by decide) dX8_longOf_34 ?_
      refine q_iadd dX8_longOf_35 ?_
      refine q_goto 45 (by decide) dX8_longOf_36 ?_
      refine q_istore [(5, .int ((S.2.1 4 x1.toNatClampNeg) + (1 : Int32))), (3, .long (0 : Int64)), (2, .int (q_b v5)), (0, .ref 2), (1, .int x1)] (by decide) rfl dX8_longOf_45 ?_
      refine q_sub [3, 4, 2, 1, 0] rfl ?_
      exact kX8_longOf_47 w h hQ
  replace h := hv
  refine q_icmp_ne 20 (by decide) dX8_longOf_13 (fun c => ?_) (fun c => ?_)
  · rw [if_neg c] at h
    refine q_iconst (v := (0 : Int32)) (by decide) dX8_longOf_20 ?_
    obtain rfl := Option.some.inj h
    refine q_sub [0, 1] rfl ?_
    exact K1
  · rw [if_pos c] at h
    refine q_iconst (v := (1 : Int32)) (by decide) dX8_longOf_16 ?_
    refine q_goto 21 (by decide) dX8_longOf_17 ?_
    obtain rfl := Option.some.inj h
    refine q_sub [0, 1] rfl ?_
    exact K1
set_option maxRecDepth 20000 in
theorem sX8_isNumber_73 {S : QS} {g : QG} {Q : Option Value → QS → Prop}  {y1 : Int32} {x : Int32} {z : (Bool) ⊕ (Int32)} (w : q_Wire S) (h : tX8_isNumber_73 S y1 x = some z) (hQ : (Sum.elim (fun r0 : Bool => Q (some (.int (q_b r0))) S) (fun y : Int32 => q_L g mX8_isNumber 1 0 0 Q 0 0 73 [(0, .ref 2), (1, .int y1), (4, .int y)] [] S) z)) : q_L g mX8_isNumber 1 0 0 Q 0 0 73 [(0, .ref 2), (1, .int y1), (4, .int x)] [] S := by
  unfold tX8_isNumber_73 at h
  refine q_iload 2 rfl dX8_isNumber_73 ?_
  refine q_aload_n 0 rfl rfl dX8_isNumber_75 ?_
  refine q_getR (q_sh2 w) (by decide) (by decide) rfl lfX8_19 dX8_isNumber_76 (r := 5) (q_wr2_3 w) ?_
  refine q_iload_n 1 rfl rfl dX8_isNumber_79 ?_
  obtain ⟨hg1, h⟩ := q_guard h
  refine q_iald (q_sh5 w) (q_inb_in hg1) dX8_isNumber_80 ?_
  refine q_icmp_ge 116 (by decide) dX8_isNumber_81 (fun c => ?_) (fun c => ?_)
  · rw [if_pos c] at h
    refine q_aload_n 0 rfl rfl dX8_isNumber_116 ?_
    refine q_iload_n 1 rfl rfl dX8_isNumber_117 ?_
    obtain ⟨r2, e3, h⟩ := q_bind h
    refine q_callV (ci := 8) (d := 0) (Mc := mX8_longOf) (kc := 0) (nc := 0) [.int y1] okX8_longOf (q_sh2 w) (by decide) rfl lmX8_66 inX8_longOf seX8_longOf rfl (Nat.le_of_ble_eq_true rfl) (Nat.le_of_ble_eq_true rfl) (Nat.le_refl _) (Nat.le_refl _) dX8_isNumber_118 (q_L.deep (by decide) (kX8_longOf (Q := fun r S' => r = some (.long r2) ∧ S' = S) w e3 ⟨rfl, rfl⟩)) (q_kJ ?_)
    refine q_lstore [(4, .long r2), (0, .ref 2), (1, .int y1)] (by decide) rfl dX8_isNumber_121 ?_
    refine q_lload 0 rfl dX8_isNumber_123 ?_
    refine q_lload 0 rfl dX8_isNumber_125 ?_
    refine q_l2i dX8_isNumber_127 ?_
    refine q_i2l dX8_isNumber_128 ?_
    refine q_lcmp dX8_isNumber_129 ?_
    refine q_if_ne 137 (by decide) dX8_isNumber_130 (fun c => ?_) (fun c => ?_)
    · rw [if_neg c] at h
      refine q_iconst (v := (0 : Int32)) (by decide) dX8_isNumber_137 ?_
      cases h
      exact q_iret rfl (by decide) dX8_isNumber_138 hQ
    · rw [if_pos c] at h
      refine q_iconst (v := (1 : Int32)) (by decide) dX8_isNumber_133 ?_
      refine q_goto 138 (by decide) dX8_isNumber_134 ?_
      cases h
      exact q_iret rfl (by decide) dX8_isNumber_138 hQ
  · rw [if_neg c] at h
    refine q_aload_n 0 rfl rfl dX8_isNumber_84 ?_
    refine q_getR (q_sh2 w) (by decide) (by decide) rfl lfX8_9 dX8_isNumber_85 (r := 3) (q_wr2_0 w) ?_
    refine q_iload 2 rfl dX8_isNumber_88 ?_
    obtain ⟨hg4, h⟩ := q_guard h
    refine q_bald (q_sh3 w) (q_inb_in hg4) dX8_isNumber_90 ?_
    refine q_bipush (v := (48 : Int32)) (by decide) dX8_isNumber_91 ?_
    refine q_icmp_lt 108 (by decide) dX8_isNumber_93 (fun c => ?_) (fun c => ?_)
    · rw [if_pos c] at h
      refine q_iconst (v := (0 : Int32)) (by decide) dX8_isNumber_108 ?_
      cases h
      exact q_iret rfl (by decide) dX8_isNumber_109 hQ
    · rw [if_neg c] at h
      refine q_aload_n 0 rfl rfl dX8_isNumber_96 ?_
      refine q_getR (q_sh2 w) (by decide) (by decide) rfl lfX8_9 dX8_isNumber_97 (r := 3) (q_wr2_0 w) ?_
      refine q_iload 2 rfl dX8_isNumber_100 ?_
      obtain ⟨hg5, h⟩ := q_guard h
      refine q_bald (q_sh3 w) (q_inb_in hg5) dX8_isNumber_102 ?_
      refine q_bipush (v := (57 : Int32)) (by decide) dX8_isNumber_103 ?_
      refine q_icmp_le 110 (by decide) dX8_isNumber_105 (fun c => ?_) (fun c => ?_)
      · rw [if_pos c] at h
        refine q_iinc (v := (x + (1 : Int32))) 2 [(4, .int (x + (1 : Int32))), (0, .ref 2), (1, .int y1)] (by decide) rfl (congrArg (fun t => x + t) (by decide)) rfl dX8_isNumber_110 ?_
        refine q_goto 73 (by decide) dX8_isNumber_113 ?_
        refine q_sub [1, 2, 0] rfl ?_
        cases h
        exact hQ
      · rw [if_neg c] at h
        refine q_iconst (v := (0 : Int32)) (by decide) dX8_isNumber_108 ?_
        cases h
        exact q_iret rfl (by decide) dX8_isNumber_109 hQ
theorem lX8_isNumber_73 {S : QS} {g : QG} {Q : Option Value → QS → Prop}  {y1 : Int32} {r : Bool} (w : q_Wire S) (hQ : Q (some (.int (q_b r))) S) : ∀ (c : Nat) (x : Int32), q_it (tX8_isNumber_73 S y1) c x = some r → q_L g mX8_isNumber 1 0 0 Q 0 0 73 [(0, .ref 2), (1, .int y1), (4, .int x)] [] S := by
  intro c
  induction c with
  | zero => intro x  h; cases h
  | succ c ih =>
    intro x  h
    simp only [q_it] at h
    cases hz : tX8_isNumber_73 S y1 x with
    | none => rw [hz] at h; cases h
    | some z =>
      rw [hz] at h
      refine sX8_isNumber_73 w hz ?_
      rcases z with z | y
      · cases h; exact hQ
      · exact ih y  h
theorem kX8_isNumber_73 {S : QS} {g : QG} {Q : Option Value → QS → Prop}  {y1 : Int32} {y4 : Int32} {r : Bool} (w : q_Wire S) (h : fX8_isNumber_73 S y1 y4 = some r) (hQ : Q (some (.int (q_b r))) S) : q_L g mX8_isNumber 1 0 0 Q 0 0 73 [(0, .ref 2), (1, .int y1), (4, .int y4)] [] S := by
  obtain ⟨c, hc⟩ := q_run_it h
  exact lX8_isNumber_73 w hQ c y4  hc
set_option maxRecDepth 20000 in
theorem kX8_isNumber {S : QS} {g : QG} {Q : Option Value → QS → Prop}  {x1 : Int32} {r : Bool} (w : q_Wire S) (h : fX8_isNumber S x1 = some r) (hQ : Q (some (.int (q_b r))) S) : q_M g mX8_isNumber 1 0 0 [.ref 2, .int x1] S Q := by
  unfold fX8_isNumber at h
  show q_L g mX8_isNumber 1 0 0 Q 0 0 0 [(0, .ref 2), (1, .int x1)] [] S
  refine q_iload_n 1 rfl rfl dX8_isNumber_0 ?_
  refine q_if_lt 12 (by decide) dX8_isNumber_1 (fun c => ?_) (fun c => ?_)
  · rw [if_pos c] at h
    refine q_iconst (v := (0 : Int32)) (by decide) dX8_isNumber_12 ?_
    obtain rfl := Option.some.inj h
    exact q_iret rfl (by decide) dX8_isNumber_13 hQ
  · rw [if_neg c] at h
    refine q_iload_n 1 rfl rfl dX8_isNumber_4 ?_
    refine q_aload_n 0 rfl rfl dX8_isNumber_5 ?_
    refine q_getI (q_sh2 w) (by decide) (by decide) rfl lfX8_29 dX8_isNumber_6 ?_
    refine q_icmp_lt 14 (by decide) dX8_isNumber_9 (fun c => ?_) (fun c => ?_)
    · rw [if_pos c] at h
      refine q_aload_n 0 rfl rfl dX8_isNumber_14 ?_
      refine q_getR (q_sh2 w) (by decide) (by decide) rfl lfX8_9 dX8_isNumber_15 (r := 3) (q_wr2_0 w) ?_
      refine q_aload_n 0 rfl rfl dX8_isNumber_18 ?_
      refine q_getR (q_sh2 w) (by decide) (by decide) rfl lfX8_15 dX8_isNumber_19 (r := 4) (q_wr2_2 w) ?_
      refine q_iload_n 1 rfl rfl dX8_isNumber_22 ?_
      obtain ⟨hg6, h⟩ := q_guard h
      refine q_iald (q_sh4 w) (q_inb_in hg6) dX8_isNumber_23 ?_
      obtain ⟨hg7, h⟩ := q_guard h
      refine q_bald (q_sh3 w) (q_inb_in hg7) dX8_isNumber_24 ?_
      refine q_bipush (v := (45 : Int32)) (by decide) dX8_isNumber_25 ?_
      obtain ⟨v10, hv, h⟩ := q_bind h
      have K1 : q_L g mX8_isNumber 1 0 0 Q 0 0 47 [(0, .ref 2), (1, .int x1)] [.int v10] S := by
        refine q_istore_n [(2, .int v10), (0, .ref 2), (1, .int x1)] rfl (by decide) rfl dX8_isNumber_47 ?_
        refine q_aload_n 1 rfl rfl dX8_isNumber_48 ?_
        refine q_getR (q_sh2 w) (by decide) (by decide) rfl lfX8_19 dX8_isNumber_49 (r := 5) (q_wr2_3 w) ?_
        refine q_iload_n 2 rfl rfl dX8_isNumber_52 ?_
        obtain ⟨hg11, h⟩ := q_guard h
        refine q_iald (q_sh5 w) (q_inb_in hg11) dX8_isNumber_53 ?_
        refine q_iload_n 0 rfl rfl dX8_isNumber_54 ?_
        refine q_isub dX8_isNumber_55 ?_
        refine q_istore_n [(3, .int ((S.2.1 5 x1.toNatClampNeg) - v10)), (2, .int v10), (0, .ref 2), (1, .int x1)] rfl (by decide) rfl dX8_isNumber_56 ?_
        refine q_iload_n 0 rfl rfl dX8_isNumber_57 ?_
        refine q_iconst (v := (1 : Int32)) (by decide) dX8_isNumber_58 ?_
        refine q_icmp_lt 68 (by decide) dX8_isNumber_59 (fun c => ?_) (fun c => ?_)
        · rw [if_pos c] at h
          refine q_iconst (v := (0 : Int32)) (by decide) dX8_isNumber_68 ?_
          obtain rfl := Option.some.inj h
          exact q_iret rfl (by decide) dX8_isNumber_69 hQ
        · rw [if_neg c] at h
          refine q_iload_n 0 rfl rfl dX8_isNumber_62 ?_
          refine q_bipush (v := (10 : Int32)) (by decide) dX8_isNumber_63 ?_
          refine q_icmp_le 70 (by decide) dX8_isNumber_65 (fun c => ?_) (fun c => ?_)
          · rw [if_pos c] at h
            refine q_iload_n 1 rfl rfl dX8_isNumber_70 ?_
            refine q_istore [(4, .int v10), (3, .int ((S.2.1 5 x1.toNatClampNeg) - v10)), (2, .int v10), (0, .ref 2), (1, .int x1)] (by decide) rfl dX8_isNumber_71 ?_
            refine q_sub [3, 4, 0] rfl ?_
            exact kX8_isNumber_73 w h hQ
          · rw [if_neg c] at h
            refine q_iconst (v := (0 : Int32)) (by decide) dX8_isNumber_68 ?_
            obtain rfl := Option.some.inj h
            exact q_iret rfl (by decide) dX8_isNumber_69 hQ
      replace h := hv
      refine q_icmp_ne 41 (by decide) dX8_isNumber_27 (fun c => ?_) (fun c => ?_)
      · rw [if_neg c] at h
        refine q_aload_n 0 rfl rfl dX8_isNumber_41 ?_
        refine q_getR (q_sh2 w) (by decide) (by decide) rfl lfX8_15 dX8_isNumber_42 (r := 4) (q_wr2_2 w) ?_
        refine q_iload_n 1 rfl rfl dX8_isNumber_45 ?_
        obtain ⟨hg8, h⟩ := q_guard h
        refine q_iald (q_sh4 w) (q_inb_in hg8) dX8_isNumber_46 ?_
        obtain rfl := Option.some.inj h
        refine q_sub [0, 1] rfl ?_
        exact K1
      · rw [if_pos c] at h
        refine q_aload_n 0 rfl rfl dX8_isNumber_30 ?_
        refine q_getR (q_sh2 w) (by decide) (by decide) rfl lfX8_15 dX8_isNumber_31 (r := 4) (q_wr2_2 w) ?_
        refine q_iload_n 1 rfl rfl dX8_isNumber_34 ?_
        obtain ⟨hg9, h⟩ := q_guard h
        refine q_iald (q_sh4 w) (q_inb_in hg9) dX8_isNumber_35 ?_
        refine q_iconst (v := (1 : Int32)) (by decide) dX8_isNumber_36 ?_
        refine q_iadd dX8_isNumber_37 ?_
        refine q_goto 47 (by decide) dX8_isNumber_38 ?_
        obtain rfl := Option.some.inj h
        refine q_sub [0, 1] rfl ?_
        exact K1
    · rw [if_neg c] at h
      refine q_iconst (v := (0 : Int32)) (by decide) dX8_isNumber_12 ?_
      obtain rfl := Option.some.inj h
      exact q_iret rfl (by decide) dX8_isNumber_13 hQ
set_option maxRecDepth 20000 in
theorem kX8_number {S : QS} {g : QG} {Q : Option Value → QS → Prop}  {x1 : Int32} {r : Int32} (w : q_Wire S) (h : fX8_number S x1 = some r) (hQ : Q (some (.int r)) S) : q_M g mX8_number 2 0 0 [.ref 2, .int x1] S Q := by
  unfold fX8_number at h
  show q_L g mX8_number 2 0 0 Q 0 0 0 [(0, .ref 2), (1, .int x1)] [] S
  refine q_aload_n 0 rfl rfl dX8_number_0 ?_
  refine q_iload_n 1 rfl rfl dX8_number_1 ?_
  obtain ⟨r1, e2, h⟩ := q_bind h
  refine q_callV (ci := 8) (d := 1) (Mc := mX8_isNumber) (kc := 0) (nc := 0) [.int x1] okX8_isNumber (q_sh2 w) (by decide) rfl lmX8_70 inX8_isNumber seX8_isNumber rfl (Nat.le_of_ble_eq_true rfl) (Nat.le_of_ble_eq_true rfl) (Nat.le_refl _) (Nat.le_refl _) dX8_number_2 (q_L.deep (by decide) (kX8_isNumber (Q := fun r S' => r = some (.int (q_b r1)) ∧ S' = S) w e2 ⟨rfl, rfl⟩)) (q_kI ?_)
  refine q_if_eq 17 (by decide) dX8_number_5 (fun c => ?_) (fun c => ?_)
  · have c := q_b_0.mp c; rw [q_if0 c] at h
    refine q_iconst (v := (0 : Int32)) (by decide) dX8_number_17 ?_
    obtain rfl := Option.some.inj h
    exact q_iret rfl rfl dX8_number_18 hQ
  · have c := q_b_n.mp c; rw [q_if1 c] at h
    refine q_aload_n 0 rfl rfl dX8_number_8 ?_
    refine q_iload_n 1 rfl rfl dX8_number_9 ?_
    obtain ⟨r3, e4, h⟩ := q_bind h
    refine q_callV (ci := 8) (d := 1) (Mc := mX8_longOf) (kc := 0) (nc := 0) [.int x1] okX8_longOf (q_sh2 w) (by decide) rfl lmX8_66 inX8_longOf seX8_longOf rfl (Nat.le_of_ble_eq_true rfl) (Nat.le_of_ble_eq_true rfl) (Nat.le_refl _) (Nat.le_refl _) dX8_number_10 (q_L.deep (by decide) (kX8_longOf (Q := fun r S' => r = some (.long r3) ∧ S' = S) w e4 ⟨rfl, rfl⟩)) (q_kJ ?_)
    refine q_l2i dX8_number_13 ?_
    refine q_goto 18 (by decide) dX8_number_14 ?_
    obtain rfl := Option.some.inj h
    exact q_iret rfl rfl dX8_number_18 hQ
