set_option maxRecDepth 20000 in
theorem kX4_begin {S : QS} {g : QG} {Q : Option Value → QS → Prop} {p : Nat}  {r : QS} (w : q_Wire S) (hp : q_pok p) (h : fX4_begin S p = some r) (hQ : Q none r) : q_M g mX4_begin 3 0 0 [.ref 78, .ref p] S Q := by
  unfold fX4_begin at h
  show q_L g mX4_begin 3 0 0 Q 0 0 0 [(0, .ref 78), (1, .ref p)] [] S
  refine q_aload_n 0 rfl rfl dX4_begin_0 ?_
  refine q_aload_n 1 rfl rfl dX4_begin_1 ?_
  refine q_putR (q_sh78 w) (by decide) (by decide) rfl rfl lfX4_22 dX4_begin_2 ?_
  obtain ⟨S1, e2, h⟩ := q_bindS h
  refine q_st e2 ?_
  have w4 : q_Wire S1 := e2 ▸ q_Wire.sR w (by decide)
  refine q_aload_n 0 rfl rfl dX4_begin_5 ?_
  refine q_aload_n 1 rfl rfl dX4_begin_6 ?_
  refine q_getRN (q_shP0 w4 hp) (by decide) (by decide) rfl lfX4_26 dX4_begin_7 (r := (p + 1)) (q_wrP0_0 w4 hp) ?_
  refine q_putR (q_sh78 w4) (by decide) (by decide) rfl rfl lfX4_32 dX4_begin_10 ?_
  obtain ⟨S5, e6, h⟩ := q_bindS h
  refine q_st e6 ?_
  have w8 : q_Wire S5 := e6 ▸ q_Wire.sR w4 (by decide)
  refine q_aload_n 0 rfl rfl dX4_begin_13 ?_
  refine q_aload_n 1 rfl rfl dX4_begin_14 ?_
  refine q_getRN (q_shP0 w8 hp) (by decide) (by decide) rfl lfX4_33 dX4_begin_15 (r := (p + 10)) (q_wrP0_1 w8 hp) ?_
  refine q_putR (q_sh78 w8) (by decide) (by decide) rfl rfl lfX4_37 dX4_begin_18 ?_
  obtain ⟨S9, e10, h⟩ := q_bindS h
  refine q_st e10 ?_
  have w12 : q_Wire S9 := e10 ▸ q_Wire.sR w8 (by decide)
  refine q_aload_n 1 rfl rfl dX4_begin_21 ?_
  obtain ⟨r13, e14, h⟩ := q_bind h
  refine q_callV (ci := 5) (d := 2) (Mc := mX5_begin) (kc := 0) (nc := 0) [] okX5_begin (q_shP0 w12 hp) (by decide) rfl lmX4_38 inX5_begin seX5_begin rfl (Nat.le_of_ble_eq_true rfl) (Nat.le_of_ble_eq_true rfl) (Nat.le_refl _) (Nat.le_refl _) dX4_begin_22 (q_L.deep (by decide) (kX5_begin (Q := fun r S' => r = none ∧ S' = r13) w12 hp e14 ⟨rfl, rfl⟩)) (q_kV ?_)
  have fx15 : q_Fx S9 r13 := q_Fx.tr (q_Fx.rf S9) (fxX5_begin e14)
  obtain rfl := Option.some.inj h
  exact q_vret rfl dX4_begin_25 hQ
set_option maxRecDepth 20000 in
theorem sX4_classIn_3 {S : QS} {g : QG} {Q : Option Value → QS → Prop} {p : Nat} {y1 : Int32} {y2 : Int32} {x : Int32} {z : (Int32) ⊕ (Int32)} (w : q_Wire S) (hp : q_pok p) (aN : q_aN S p) (h : tX4_classIn_3 S p y1 y2 x = some z) (hQ : (Sum.elim (fun r0 : Int32 => Q (some (.int r0)) S) (fun y : Int32 => q_L g mX4_classIn 5 0 0 Q 0 0 3 [(0, .ref 78), (1, .int y1), (2, .int y2), (3, .int y)] [] S) z)) : q_L g mX4_classIn 5 0 0 Q 0 0 3 [(0, .ref 78), (1, .int y1), (2, .int y2), (3, .int x)] [] S := by
  unfold tX4_classIn_3 at h
  refine q_iload_n 3 rfl rfl dX4_classIn_3 ?_
  refine q_aload_n 0 rfl rfl dX4_classIn_4 ?_
  refine q_getR (q_sh78 w) (by decide) (by decide) rfl lfX4_32 dX4_classIn_5 (r := (p + 1)) (aN).2.1 ?_
  refine q_getIN (q_shP1 w hp) (by decide) (by decide) rfl lfX4_55 dX4_classIn_8 ?_
  refine q_icmp_ge 43 (by decide) dX4_classIn_11 (fun c => ?_) (fun c => ?_)
  · rw [if_pos c] at h
    refine q_aload_n 0 rfl rfl dX4_classIn_43 ?_
    refine q_getR (q_sh78 w) (by decide) (by decide) rfl lfX4_18 dX4_classIn_44 (r := 2) (q_wr78_0 w) ?_
    refine q_ldcS (j := 24) (r := 1000048) rfl rfl dX4_classIn_47 ?_
    refine q_iload_n 1 rfl rfl dX4_classIn_49 ?_
    refine q_iload_n 2 rfl rfl dX4_classIn_50 ?_
    obtain ⟨r1, e2, h⟩ := q_bind h
    refine q_callV (ci := 8) (d := 4) (Mc := mX8_numberIn) (kc := 0) (nc := 0) [.ref 1000048, .int y1, .int y2] okX8_numberIn (q_sh2 w) (by decide) rfl lmX4_257 inX8_numberIn seX8_numberIn rfl (Nat.le_of_ble_eq_true rfl) (Nat.le_of_ble_eq_true rfl) (Nat.le_refl _) (Nat.le_refl _) dX4_classIn_51 (q_L.deep (by decide) (kX8_numberIn (Q := fun r S' => r = some (.int r1) ∧ S' = S) w e2 ⟨rfl, rfl⟩)) (q_kI ?_)
    cases h
    exact q_iret rfl rfl dX4_classIn_54 hQ
  · rw [if_neg c] at h
    refine q_aload_n 0 rfl rfl dX4_classIn_14 ?_
    refine q_getR (q_sh78 w) (by decide) (by decide) rfl lfX4_18 dX4_classIn_15 (r := 2) (q_wr78_0 w) ?_
    refine q_aload_n 0 rfl rfl dX4_classIn_18 ?_
    refine q_getR (q_sh78 w) (by decide) (by decide) rfl lfX4_32 dX4_classIn_19 (r := (p + 1)) (aN).2.1 ?_
    refine q_getRN (q_shP1 w hp) (by decide) (by decide) rfl lfX4_246 dX4_classIn_22 (r := (p + 2)) (q_wrP1_1 w hp) ?_
    refine q_iload_n 3 rfl rfl dX4_classIn_25 ?_
    obtain ⟨hg3, h⟩ := q_guard h
    refine q_iald (q_shP2 w hp) (q_inb_in hg3) dX4_classIn_26 ?_
    refine q_iload_n 1 rfl rfl dX4_classIn_27 ?_
    refine q_iload_n 2 rfl rfl dX4_classIn_28 ?_
    obtain ⟨r4, e5, h⟩ := q_bind h
    refine q_callV (ci := 8) (d := 4) (Mc := mX8_same) (kc := 0) (nc := 0) [.int (S.2.1 (p + 2) x.toNatClampNeg), .int y1, .int y2] okX8_same (q_sh2 w) (by decide) rfl lmX4_147 inX8_same seX8_same rfl (Nat.le_of_ble_eq_true rfl) (Nat.le_of_ble_eq_true rfl) (Nat.le_refl _) (Nat.le_refl _) dX4_classIn_29 (q_L.deep (by decide) (kX8_same (Q := fun r S' => r = some (.int (q_b r4)) ∧ S' = S) w e5 ⟨rfl, rfl⟩)) (q_kI ?_)
    refine q_if_eq 37 (by decide) dX4_classIn_32 (fun c => ?_) (fun c => ?_)
    · have c := q_b_0.mp c; rw [q_if0 c] at h
      refine q_iinc (v := (x + (1 : Int32))) 3 [(3, .int (x + (1 : Int32))), (0, .ref 78), (1, .int y1), (2, .int y2)] (by decide) rfl (congrArg (fun t => x + t) (by decide)) rfl dX4_classIn_37 ?_
      refine q_goto 3 (by decide) dX4_classIn_40 ?_
      refine q_sub [1, 2, 3, 0] rfl ?_
      cases h
      exact hQ
    · have c := q_b_n.mp c; rw [q_if1 c] at h
      refine q_iload_n 3 rfl rfl dX4_classIn_35 ?_
      cases h
      exact q_iret rfl rfl dX4_classIn_36 hQ
theorem lX4_classIn_3 {S : QS} {g : QG} {Q : Option Value → QS → Prop} {p : Nat} {y1 : Int32} {y2 : Int32} {r : Int32} (w : q_Wire S) (hp : q_pok p) (aN : q_aN S p) (hQ : Q (some (.int r)) S) : ∀ (c : Nat) (x : Int32), q_it (tX4_classIn_3 S p y1 y2) c x = some r → q_L g mX4_classIn 5 0 0 Q 0 0 3 [(0, .ref 78), (1, .int y1), (2, .int y2), (3, .int x)] [] S := by
  intro c
  induction c with
  | zero => intro x  h; cases h
  | succ c ih =>
    intro x  h
    simp only [q_it] at h
    cases hz : tX4_classIn_3 S p y1 y2 x with
    | none => rw [hz] at h; cases h
    | some z =>
      rw [hz] at h
      refine sX4_classIn_3 w hp aN hz ?_
      rcases z with z | y
      · cases h; exact hQ
      · exact ih y  h
theorem kX4_classIn_3 {S : QS} {g : QG} {Q : Option Value → QS → Prop} {p : Nat} {y1 : Int32} {y2 : Int32} {y3 : Int32} {r : Int32} (w : q_Wire S) (hp : q_pok p) (aN : q_aN S p) (h : fX4_classIn_3 S p y1 y2 y3 = some r) (hQ : Q (some (.int r)) S) : q_L g mX4_classIn 5 0 0 Q 0 0 3 [(0, .ref 78), (1, .int y1), (2, .int y2), (3, .int y3)] [] S := by
  obtain ⟨c, hc⟩ := q_run_it h
  exact lX4_classIn_3 w hp aN hQ c y3  hc
set_option maxRecDepth 20000 in
theorem kX4_classIn {S : QS} {g : QG} {Q : Option Value → QS → Prop} {p : Nat} {x1 : Int32} {x2 : Int32} {r : Int32} (w : q_Wire S) (hp : q_pok p) (aN : q_aN S p) (h : fX4_classIn S p x1 x2 = some r) (hQ : Q (some (.int r)) S) : q_M g mX4_classIn 5 0 0 [.ref 78, .int x1, .int x2] S Q := by
  unfold fX4_classIn at h
  show q_L g mX4_classIn 5 0 0 Q 0 0 0 [(0, .ref 78), (1, .int x1), (2, .int x2)] [] S
  refine q_bipush (v := (8 : Int32)) (by decide) dX4_classIn_0 ?_
  refine q_istore_n [(3, .int (8 : Int32)), (0, .ref 78), (1, .int x1), (2, .int x2)] rfl (by decide) rfl dX4_classIn_2 ?_
  refine q_sub [1, 2, 3, 0] rfl ?_
  exact kX4_classIn_3 w hp (aN) h hQ
set_option maxRecDepth 20000 in
theorem kX4_classAt {S : QS} {g : QG} {Q : Option Value → QS → Prop} {p : Nat} {x1 : Int32} {r : Int32} (w : q_Wire S) (hp : q_pok p) (aN : q_aN S p) (h : fX4_classAt S p x1 = some r) (hQ : Q (some (.int r)) S) : q_M g mX4_classAt 6 0 0 [.ref 78, .int x1] S Q := by
  unfold fX4_classAt at h
  show q_L g mX4_classAt 6 0 0 Q 0 0 0 [(0, .ref 78), (1, .int x1)] [] S
  refine q_aload_n 0 rfl rfl dX4_classAt_0 ?_
  refine q_aload_n 0 rfl rfl dX4_classAt_1 ?_
  refine q_getR (q_sh78 w) (by decide) (by decide) rfl lfX4_18 dX4_classAt_2 (r := 2) (q_wr78_0 w) ?_
  refine q_iload_n 1 rfl rfl dX4_classAt_5 ?_
  obtain ⟨r1, e2, h⟩ := q_bind h
  refine q_callV (ci := 8) (d := 5) (Mc := mX8_start) (kc := 0) (nc := 0) [.int x1] okX8_start (q_sh2 w) (by decide) rfl lmX4_75 inX8_start seX8_start rfl (Nat.le_of_ble_eq_true rfl) (Nat.le_of_ble_eq_true rfl) (Nat.le_refl _) (Nat.le_refl _) dX4_classAt_6 (q_L.deep (by decide) (kX8_start (Q := fun r S' => r = some (.int r1) ∧ S' = S) w e2 ⟨rfl, rfl⟩)) (q_kI ?_)
  refine q_aload_n 0 rfl rfl dX4_classAt_9 ?_
  refine q_getR (q_sh78 w) (by decide) (by decide) rfl lfX4_18 dX4_classAt_10 (r := 2) (q_wr78_0 w) ?_
  refine q_iload_n 1 rfl rfl dX4_classAt_13 ?_
  obtain ⟨r3, e4, h⟩ := q_bind h
  refine q_callV (ci := 8) (d := 5) (Mc := mX8_stop) (kc := 0) (nc := 0) [.int x1] okX8_stop (q_sh2 w) (by decide) rfl lmX4_78 inX8_stop seX8_stop rfl (Nat.le_of_ble_eq_true rfl) (Nat.le_of_ble_eq_true rfl) (Nat.le_refl _) (Nat.le_refl _) dX4_classAt_14 (q_L.deep (by decide) (kX8_stop (Q := fun r S' => r = some (.int r3) ∧ S' = S) w e4 ⟨rfl, rfl⟩)) (q_kI ?_)
  obtain ⟨r5, e6, h⟩ := q_bind h
  refine q_callV (ci := 4) (d := 5) (Mc := mX4_classIn) (kc := 0) (nc := 0) [.int r1, .int r3] okX4_classIn (q_sh78 w) (by decide) rfl lmX4_240 inX4_classIn seX4_classIn rfl (Nat.le_of_ble_eq_true rfl) (Nat.le_of_ble_eq_true rfl) (Nat.le_refl _) (Nat.le_refl _) dX4_classAt_17 (q_L.deep (by decide) (kX4_classIn (Q := fun r S' => r = some (.int r5) ∧ S' = S) w hp (aN) e6 ⟨rfl, rfl⟩)) (q_kI ?_)
  obtain rfl := Option.some.inj h
  exact q_iret rfl rfl dX4_classAt_20 hQ
set_option maxRecDepth 20000 in
theorem sX4_classFault_2 {g : QG} {Q : Option Value → QS → Prop} {p : Nat}  {x : Int32 × QS} {z : (Int32 × QS) ⊕ (Int32 × QS)} (w : q_Wire x.2) (hp : q_pok p) (aN : q_aN x.2 p) (h : tX4_classFault_2 p x = some z) (hQ : (Sum.elim (fun r0 : Int32 × QS => Q (some (.int r0.1)) r0.2) (fun y : Int32 × QS => q_L g mX4_classFault 7 0 0 Q 0 0 2 [(0, .ref 78), (1, .int y.1)] [] y.2) z)) : q_L g mX4_classFault 7 0 0 Q 0 0 2 [(0, .ref 78), (1, .int x.1)] [] x.2 := by
  unfold tX4_classFault_2 at h
  refine q_iload_n 1 rfl rfl dX4_classFault_2 ?_
  refine q_aload_n 0 rfl rfl dX4_classFault_3 ?_
  refine q_getR (q_sh78 w) (by decide) (by decide) rfl lfX4_18 dX4_classFault_4 (r := 2) (q_wr78_0 w) ?_
  refine q_getIN (q_sh2 w) (by decide) (by decide) rfl lfX4_41 dX4_classFault_7 ?_
  refine q_icmp_ge 88 (by decide) dX4_classFault_10 (fun c => ?_) (fun c => ?_)
  · rw [if_pos c] at h
    refine q_iconst (v := (-1 : Int32)) (by decide) dX4_classFault_88 ?_
    cases h
    exact q_iret rfl rfl dX4_classFault_89 hQ
  · rw [if_neg c] at h
    refine q_aload_n 0 rfl rfl dX4_classFault_13 ?_
    refine q_getR (q_sh78 w) (by decide) (by decide) rfl lfX4_18 dX4_classFault_14 (r := 2) (q_wr78_0 w) ?_
    refine q_getRN (q_sh2 w) (by decide) (by decide) rfl lfX4_47 dX4_classFault_17 (r := 6) (q_wr2_4 w) ?_
    refine q_iload_n 1 rfl rfl dX4_classFault_20 ?_
    obtain ⟨hg1, h⟩ := q_guard h
    refine q_bald (q_sh6 w) (q_inb_in hg1) dX4_classFault_21 ?_
    refine q_bipush (v := (48 : Int32)) (by decide) dX4_classFault_22 ?_
    refine q_icmp_ne 82 (by decide) dX4_classFault_24 (fun c => ?_) (fun c => ?_)
    · rw [if_neg c] at h
      refine q_iinc (v := (x.1 + (1 : Int32))) 1 [(1, .int (x.1 + (1 : Int32))), (0, .ref 78)] (by decide) rfl (congrArg (fun t => x.1 + t) (by decide)) rfl dX4_classFault_82 ?_
      refine q_goto 2 (by decide) dX4_classFault_85 ?_
      refine q_sub [1, 0] rfl ?_
      cases h
      exact hQ
    · rw [if_pos c] at h
      refine q_aload_n 0 rfl rfl dX4_classFault_27 ?_
      refine q_iload_n 1 rfl rfl dX4_classFault_28 ?_
      refine q_iconst (v := (1 : Int32)) (by decide) dX4_classFault_29 ?_
      refine q_iadd dX4_classFault_30 ?_
      obtain ⟨r2, e3, h⟩ := q_bind h
      refine q_callV (ci := 4) (d := 6) (Mc := mX4_classAt) (kc := 0) (nc := 0) [.int (x.1 + (1 : Int32))] okX4_classAt (q_sh78 w) (by decide) rfl lmX4_51 inX4_classAt seX4_classAt rfl (Nat.le_of_ble_eq_true rfl) (Nat.le_of_ble_eq_true rfl) (Nat.le_refl _) (Nat.le_refl _) dX4_classFault_31 (q_L.deep (by decide) (kX4_classAt (Q := fun r S' => r = some (.int r2) ∧ S' = x.2) w hp (aN) e3 ⟨rfl, rfl⟩)) (q_kI ?_)
      refine q_iconst (v := (-1 : Int32)) (by decide) dX4_classFault_34 ?_
      refine q_icmp_ne 50 (by decide) dX4_classFault_35 (fun c => ?_) (fun c => ?_)
      · rw [if_neg c] at h
        refine q_iload_n 1 rfl rfl dX4_classFault_50 ?_
        refine q_iconst (v := (1 : Int32)) (by decide) dX4_classFault_51 ?_
        refine q_iadd dX4_classFault_52 ?_
        cases h
        exact q_iret rfl rfl dX4_classFault_53 hQ
      · rw [if_pos c] at h
        refine q_aload_n 0 rfl rfl dX4_classFault_38 ?_
        refine q_getR (q_sh78 w) (by decide) (by decide) rfl lfX4_32 dX4_classFault_39 (r := (p + 1)) (aN).2.1 ?_
        refine q_getIN (q_shP1 w hp) (by decide) (by decide) rfl lfX4_55 dX4_classFault_42 ?_
        refine q_bipush (v := (32 : Int32)) (by decide) dX4_classFault_45 ?_
        refine q_icmp_ne 54 (by decide) dX4_classFault_47 (fun c => ?_) (fun c => ?_)
        · rw [if_neg c] at h
          refine q_aload_n 0 rfl rfl dX4_classFault_54 ?_
          refine q_iload_n 1 rfl rfl dX4_classFault_55 ?_
          refine q_iconst (v := (3 : Int32)) (by decide) dX4_classFault_56 ?_
          refine q_iadd dX4_classFault_57 ?_
          obtain ⟨r4, e5, h⟩ := q_bind h
          refine q_callV (ci := 4) (d := 6) (Mc := mX4_classAt) (kc := 0) (nc := 0) [.int (x.1 + (3 : Int32))] okX4_classAt (q_sh78 w) (by decide) rfl lmX4_51 inX4_classAt seX4_classAt rfl (Nat.le_of_ble_eq_true rfl) (Nat.le_of_ble_eq_true rfl) (Nat.le_refl _) (Nat.le_refl _) dX4_classFault_58 (q_L.deep (by decide) (kX4_classAt (Q := fun r S' => r = some (.int r4) ∧ S' = x.2) w hp (aN) e5 ⟨rfl, rfl⟩)) (q_kI ?_)
          refine q_istore_n [(2, .int r4), (0, .ref 78), (1, .int x.1)] rfl (by decide) rfl dX4_classFault_61 ?_
          refine q_iload_n 0 rfl rfl dX4_classFault_62 ?_
          refine q_iconst (v := (-1 : Int32)) (by decide) dX4_classFault_63 ?_
          refine q_icmp_ne 71 (by decide) dX4_classFault_64 (fun c => ?_) (fun c => ?_)
          · rw [if_neg c] at h
            refine q_aload_n 1 rfl rfl dX4_classFault_71 ?_
            refine q_getR (q_sh78 w) (by decide) (by decide) rfl lfX4_32 dX4_classFault_72 (r := (p + 1)) (aN).2.1 ?_
            refine q_iload_n 2 rfl rfl dX4_classFault_75 ?_
            refine q_iconst (v := (1 : Int32)) (by decide) dX4_classFault_76 ?_
            refine q_iadd dX4_classFault_77 ?_
            refine q_iload_n 0 rfl rfl dX4_classFault_78 ?_
            obtain ⟨r6, e7, h⟩ := q_bind h
            refine q_callV (ci := 0) (d := 6) (Mc := mX0_addClass) (kc := 0) (nc := 0) [.int (x.1 + (1 : Int32)), .int r4] okX0_addClass (q_shP1 w hp) (by decide) rfl lmX4_60 inX0_addClass seX0_addClass rfl (Nat.le_of_ble_eq_true rfl) (Nat.le_of_ble_eq_true rfl) (Nat.le_refl _) (Nat.le_refl _) dX4_classFault_79 (q_L.deep (by decide) (kX0_addClass (Q := fun r S' => r = none ∧ S' = r6) w hp e7 ⟨rfl, rfl⟩)) (q_kV ?_)
            have fx8 : q_Fx x.2 r6 := q_Fx.tr (q_Fx.rf x.2) (fxX0_addClass e7)
            refine q_iinc (v := (x.1 + (1 : Int32))) 2 [(1, .int (x.1 + (1 : Int32))), (2, .int r4), (0, .ref 78)] (by decide) rfl (congrArg (fun t => x.1 + t) (by decide)) rfl dX4_classFault_82 ?_
            refine q_goto 2 (by decide) dX4_classFault_85 ?_
            refine q_sub [2, 0] rfl ?_
            cases h
            exact hQ
          · rw [if_pos c] at h
            refine q_iload_n 2 rfl rfl dX4_classFault_67 ?_
            refine q_iconst (v := (3 : Int32)) (by decide) dX4_classFault_68 ?_
            refine q_iadd dX4_classFault_69 ?_
            cases h
            exact q_iret rfl rfl dX4_classFault_70 hQ
        · rw [if_pos c] at h
          refine q_iload_n 1 rfl rfl dX4_classFault_50 ?_
          refine q_iconst (v := (1 : Int32)) (by decide) dX4_classFault_51 ?_
          refine q_iadd dX4_classFault_52 ?_
          cases h
          exact q_iret rfl rfl dX4_classFault_53 hQ
theorem lX4_classFault_2 {g : QG} {Q : Option Value → QS → Prop} {p : Nat}  {r : Int32 × QS} (hp : q_pok p) (hQ : Q (some (.int r.1)) r.2) : ∀ (c : Nat) (x : Int32 × QS), q_Wire x.2 → q_aN x.2 p → q_it (tX4_classFault_2 p) c x = some r → q_L g mX4_classFault 7 0 0 Q 0 0 2 [(0, .ref 78), (1, .int x.1)] [] x.2 := by
  intro c
  induction c with
  | zero => intro x w aN h; cases h
  | succ c ih =>
    intro x w aN h
    simp only [q_it] at h
    cases hz : tX4_classFault_2 p x with
    | none => rw [hz] at h; cases h
    | some z =>
      rw [hz] at h
      refine sX4_classFault_2 w hp aN hz ?_
      rcases z with z | y
      · cases h; exact hQ
      · have fz := fxtX4_classFault_2 hz; exact ih y (w.fx fz) (aN.fx fz) h
theorem kX4_classFault_2 {S : QS} {g : QG} {Q : Option Value → QS → Prop} {p : Nat} {y1 : Int32} {r : Int32 × QS} (w : q_Wire S) (hp : q_pok p) (aN : q_aN S p) (h : fX4_classFault_2 S p y1 = some r) (hQ : Q (some (.int r.1)) r.2) : q_L g mX4_classFault 7 0 0 Q 0 0 2 [(0, .ref 78), (1, .int y1)] [] S := by
  obtain ⟨c, hc⟩ := q_run_it h
  exact lX4_classFault_2 hp hQ c (y1, S) w aN hc
set_option maxRecDepth 20000 in
theorem kX4_classFault {S : QS} {g : QG} {Q : Option Value → QS → Prop} {p : Nat}  {r : Int32 × QS} (w : q_Wire S) (hp : q_pok p) (aN : q_aN S p) (h : fX4_classFault S p = some r) (hQ : Q (some (.int r.1)) r.2) : q_M g mX4_classFault 7 0 0 [.ref 78] S Q := by
  unfold fX4_classFault at h
  show q_L g mX4_classFault 7 0 0 Q 0 0 0 [(0, .ref 78)] [] S
  refine q_iconst (v := (0 : Int32)) (by decide) dX4_classFault_0 ?_
  refine q_istore_n [(1, .int (0 : Int32)), (0, .ref 78)] rfl (by decide) rfl dX4_classFault_1 ?_
  refine q_sub [1, 0] rfl ?_
  exact kX4_classFault_2 w hp (aN) h hQ
set_option maxRecDepth 20000 in
theorem sX4_fieldNamed_3 {S : QS} {g : QG} {Q : Option Value → QS → Prop} {p : Nat} {y1 : Int32} {y2 : Int32} {y3 : Int32} {x : Int32} {z : (Int32) ⊕ (Int32)} (w : q_Wire S) (hp : q_pok p) (aN : q_aN S p) (h : tX4_fieldNamed_3 S p y1 y2 y3 x = some z) (hQ : (Sum.elim (fun r0 : Int32 => Q (some (.int r0)) S) (fun y : Int32 => q_L g mX4_fieldNamed 1 0 0 Q 0 0 3 [(0, .ref 78), (1, .int y1), (2, .int y2), (3, .int y3), (4, .int y)] [] S) z)) : q_L g mX4_fieldNamed 1 0 0 Q 0 0 3 [(0, .ref 78), (1, .int y1), (2, .int y2), (3, .int y3), (4, .int x)] [] S := by
  unfold tX4_fieldNamed_3 at h
  refine q_iload 4 rfl dX4_fieldNamed_3 ?_
  refine q_aload_n 0 rfl rfl dX4_fieldNamed_5 ?_
  refine q_getR (q_sh78 w) (by decide) (by decide) rfl lfX4_32 dX4_fieldNamed_6 (r := (p + 1)) (aN).2.1 ?_
  refine q_getIN (q_shP1 w hp) (by decide) (by decide) rfl lfX4_85 dX4_fieldNamed_9 ?_
  refine q_icmp_ge 67 (by decide) dX4_fieldNamed_12 (fun c => ?_) (fun c => ?_)
  · rw [if_pos c] at h
    refine q_iconst (v := (-1 : Int32)) (by decide) dX4_fieldNamed_67 ?_
    cases h
    exact q_iret rfl rfl dX4_fieldNamed_68 hQ
  · rw [if_neg c] at h
    refine q_aload_n 0 rfl rfl dX4_fieldNamed_15 ?_
    refine q_getR (q_sh78 w) (by decide) (by decide) rfl lfX4_32 dX4_fieldNamed_16 (r := (p + 1)) (aN).2.1 ?_
    refine q_aload_n 0 rfl rfl dX4_fieldNamed_19 ?_
    refine q_getR (q_sh78 w) (by decide) (by decide) rfl lfX4_32 dX4_fieldNamed_20 (r := (p + 1)) (aN).2.1 ?_
    refine q_getRN (q_shP1 w hp) (by decide) (by decide) rfl lfX4_270 dX4_fieldNamed_23 (r := (p + 7)) (q_wrP1_7 w hp) ?_
    refine q_iload 4 rfl dX4_fieldNamed_26 ?_
    obtain ⟨hg1, h⟩ := q_guard h
    refine q_iald (q_shP7 w hp) (q_inb_in hg1) dX4_fieldNamed_28 ?_
    refine q_iload_n 1 rfl rfl dX4_fieldNamed_29 ?_
    obtain ⟨r2, e3, h⟩ := q_bind h
    refine q_callV (ci := 0) (d := 0) (Mc := mX0_isAbove) (kc := 0) (nc := 0) [.int (S.2.1 (p + 7) x.toNatClampNeg), .int y1] okX0_isAbove (q_shP1 w hp) (by decide) rfl lmX4_195 inX0_isAbove seX0_isAbove rfl (Nat.le_of_ble_eq_true rfl) (Nat.le_of_ble_eq_true rfl) (Nat.le_refl _) (Nat.le_refl _) dX4_fieldNamed_30 (q_L.deep (by decide) (kX0_isAbove (Q := fun r S' => r = some (.int (q_b r2)) ∧ S' = S) w hp e3 ⟨rfl, rfl⟩)) (q_kI ?_)
    refine q_if_eq 61 (by decide) dX4_fieldNamed_33 (fun c => ?_) (fun c => ?_)
    · have c := q_b_0.mp c; rw [q_if0 c] at h
      refine q_iinc (v := (x + (1 : Int32))) 4 [(4, .int (x + (1 : Int32))), (0, .ref 78), (1, .int y1), (2, .int y2), (3, .int y3)] (by decide) rfl (congrArg (fun t => x + t) (by decide)) rfl dX4_fieldNamed_61 ?_
      refine q_goto 3 (by decide) dX4_fieldNamed_64 ?_
      refine q_sub [1, 2, 3, 4, 0] rfl ?_
      cases h
      exact hQ
    · have c := q_b_n.mp c; rw [q_if1 c] at h
      refine q_aload_n 0 rfl rfl dX4_fieldNamed_36 ?_
      refine q_getR (q_sh78 w) (by decide) (by decide) rfl lfX4_18 dX4_fieldNamed_37 (r := 2) (q_wr78_0 w) ?_
      refine q_aload_n 0 rfl rfl dX4_fieldNamed_40 ?_
      refine q_getR (q_sh78 w) (by decide) (by decide) rfl lfX4_32 dX4_fieldNamed_41 (r := (p + 1)) (aN).2.1 ?_
      refine q_getRN (q_shP1 w hp) (by decide) (by decide) rfl lfX4_273 dX4_fieldNamed_44 (r := (p + 6)) (q_wrP1_6 w hp) ?_
      refine q_iload 4 rfl dX4_fieldNamed_47 ?_
      obtain ⟨hg4, h⟩ := q_guard h
      refine q_iald (q_shP6 w hp) (q_inb_in hg4) dX4_fieldNamed_49 ?_
      refine q_iload_n 2 rfl rfl dX4_fieldNamed_50 ?_
      refine q_iload_n 3 rfl rfl dX4_fieldNamed_51 ?_
      obtain ⟨r5, e6, h⟩ := q_bind h
      refine q_callV (ci := 8) (d := 0) (Mc := mX8_same) (kc := 0) (nc := 0) [.int (S.2.1 (p + 6) x.toNatClampNeg), .int y2, .int y3] okX8_same (q_sh2 w) (by decide) rfl lmX4_147 inX8_same seX8_same rfl (Nat.le_of_ble_eq_true rfl) (Nat.le_of_ble_eq_true rfl) (Nat.le_refl _) (Nat.le_refl _) dX4_fieldNamed_52 (q_L.deep (by decide) (kX8_same (Q := fun r S' => r = some (.int (q_b r5)) ∧ S' = S) w e6 ⟨rfl, rfl⟩)) (q_kI ?_)
      refine q_if_eq 61 (by decide) dX4_fieldNamed_55 (fun c => ?_) (fun c => ?_)
      · have c := q_b_0.mp c; rw [q_if0 c] at h
        refine q_iinc (v := (x + (1 : Int32))) 4 [(4, .int (x + (1 : Int32))), (0, .ref 78), (1, .int y1), (2, .int y2), (3, .int y3)] (by decide) rfl (congrArg (fun t => x + t) (by decide)) rfl dX4_fieldNamed_61 ?_
        refine q_goto 3 (by decide) dX4_fieldNamed_64 ?_
        refine q_sub [1, 2, 3, 4, 0] rfl ?_
        cases h
        exact hQ
      · have c := q_b_n.mp c; rw [q_if1 c] at h
        refine q_iload 4 rfl dX4_fieldNamed_58 ?_
        cases h
        exact q_iret rfl rfl dX4_fieldNamed_60 hQ
theorem lX4_fieldNamed_3 {S : QS} {g : QG} {Q : Option Value → QS → Prop} {p : Nat} {y1 : Int32} {y2 : Int32} {y3 : Int32} {r : Int32} (w : q_Wire S) (hp : q_pok p) (aN : q_aN S p) (hQ : Q (some (.int r)) S) : ∀ (c : Nat) (x : Int32), q_it (tX4_fieldNamed_3 S p y1 y2 y3) c x = some r → q_L g mX4_fieldNamed 1 0 0 Q 0 0 3 [(0, .ref 78), (1, .int y1), (2, .int y2), (3, .int y3), (4, .int x)] [] S := by
  intro c
  induction c with
  | zero => intro x  h; cases h
  | succ c ih =>
    intro x  h
    simp only [q_it] at h
    cases hz : tX4_fieldNamed_3 S p y1 y2 y3 x with
    | none => rw [hz] at h; cases h
    | some z =>
      rw [hz] at h
      refine sX4_fieldNamed_3 w hp aN hz ?_
      rcases z with z | y
      · cases h; exact hQ
      · exact ih y  h
theorem kX4_fieldNamed_3 {S : QS} {g : QG} {Q : Option Value → QS → Prop} {p : Nat} {y1 : Int32} {y2 : Int32} {y3 : Int32} {y4 : Int32} {r : Int32} (w : q_Wire S) (hp : q_pok p) (aN : q_aN S p) (h : fX4_fieldNamed_3 S p y1 y2 y3 y4 = some r) (hQ : Q (some (.int r)) S) : q_L g mX4_fieldNamed 1 0 0 Q 0 0 3 [(0, .ref 78), (1, .int y1), (2, .int y2), (3, .int y3), (4, .int y4)] [] S := by
  obtain ⟨c, hc⟩ := q_run_it h
  exact lX4_fieldNamed_3 w hp aN hQ c y4  hc
set_option maxRecDepth 20000 in
theorem kX4_fieldNamed {S : QS} {g : QG} {Q : Option Value → QS → Prop} {p : Nat} {x1 : Int32} {x2 : Int32} {x3 : Int32} {r : Int32} (w : q_Wire S) (hp : q_pok p) (aN : q_aN S p) (h : fX4_fieldNamed S p x1 x2 x3 = some r) (hQ : Q (some (.int r)) S) : q_M g mX4_fieldNamed 1 0 0 [.ref 78, .int x1, .int x2, .int x3] S Q := by
  unfold fX4_fieldNamed at h
  show q_L g mX4_fieldNamed 1 0 0 Q 0 0 0 [(0, .ref 78), (1, .int x1), (2, .int x2), (3, .int x3)] [] S
  refine q_iconst (v := (0 : Int32)) (by decide) dX4_fieldNamed_0 ?_
  refine q_istore [(4, .int (0 : Int32)), (0, .ref 78), (1, .int x1), (2, .int x2), (3, .int x3)] (by decide) rfl dX4_fieldNamed_1 ?_
  refine q_sub [1, 2, 3, 4, 0] rfl ?_
  exact kX4_fieldNamed_3 w hp (aN) h hQ
set_option maxRecDepth 20000 in
theorem kX4_arrayOf {S : QS} {g : QG} {Q : Option Value → QS → Prop}  {x0 : Int32} {r : Int32} (w : q_Wire S) (h : fX4_arrayOf S x0 = some r) (hQ : Q (some (.int r)) S) : q_M g mX4_arrayOf 0 0 0 [.int x0] S Q := by
  unfold fX4_arrayOf at h
  show q_L g mX4_arrayOf 0 0 0 Q 0 0 0 [(0, .int x0)] [] S
  refine q_iload_n 0 rfl rfl dX4_arrayOf_0 ?_
  refine q_bipush (v := (66 : Int32)) (by decide) dX4_arrayOf_1 ?_
  refine q_icmp_ne 9 (by decide) dX4_arrayOf_3 (fun c => ?_) (fun c => ?_)
  · rw [if_neg c] at h
    refine q_iload_n 0 rfl rfl dX4_arrayOf_9 ?_
    refine q_iconst (v := (-1 : Int32)) (by decide) dX4_arrayOf_10 ?_
    refine q_icmp_ne 18 (by decide) dX4_arrayOf_11 (fun c => ?_) (fun c => ?_)
    · rw [if_neg c] at h
      refine q_bipush (v := (32 : Int32)) (by decide) dX4_arrayOf_18 ?_
      refine q_iload_n 0 rfl rfl dX4_arrayOf_20 ?_
      refine q_iadd dX4_arrayOf_21 ?_
      obtain rfl := Option.some.inj h
      exact q_iret rfl rfl dX4_arrayOf_22 hQ
    · rw [if_pos c] at h
      refine q_iconst (v := (-1 : Int32)) (by decide) dX4_arrayOf_14 ?_
      refine q_goto 22 (by decide) dX4_arrayOf_15 ?_
      obtain rfl := Option.some.inj h
      exact q_iret rfl rfl dX4_arrayOf_22 hQ
  · rw [if_pos c] at h
    refine q_bipush (v := (64 : Int32)) (by decide) dX4_arrayOf_6 ?_
    obtain rfl := Option.some.inj h
    exact q_iret rfl rfl dX4_arrayOf_8 hQ
set_option maxRecDepth 20000 in
theorem kX4_typeAt {S : QS} {g : QG} {Q : Option Value → QS → Prop} {p : Nat} {x1 : Int32} {r : Int32} (w : q_Wire S) (hp : q_pok p) (aN : q_aN S p) (h : fX4_typeAt S p x1 = some r) (hQ : Q (some (.int r)) S) : q_M g mX4_typeAt 6 0 0 [.ref 78, .int x1] S Q := by
  unfold fX4_typeAt at h
  show q_L g mX4_typeAt 6 0 0 Q 0 0 0 [(0, .ref 78), (1, .int x1)] [] S
  refine q_aload_n 0 rfl rfl dX4_typeAt_0 ?_
  refine q_getR (q_sh78 w) (by decide) (by decide) rfl lfX4_18 dX4_typeAt_1 (r := 2) (q_wr78_0 w) ?_
  refine q_iload_n 1 rfl rfl dX4_typeAt_4 ?_
  obtain ⟨r1, e2, h⟩ := q_bind h
  refine q_callV (ci := 8) (d := 5) (Mc := mX8_start) (kc := 0) (nc := 0) [.int x1] okX8_start (q_sh2 w) (by decide) rfl lmX4_75 inX8_start seX8_start rfl (Nat.le_of_ble_eq_true rfl) (Nat.le_of_ble_eq_true rfl) (Nat.le_refl _) (Nat.le_refl _) dX4_typeAt_5 (q_L.deep (by decide) (kX8_start (Q := fun r S' => r = some (.int r1) ∧ S' = S) w e2 ⟨rfl, rfl⟩)) (q_kI ?_)
  refine q_istore_n [(2, .int r1), (0, .ref 78), (1, .int x1)] rfl (by decide) rfl dX4_typeAt_8 ?_
  refine q_aload_n 1 rfl rfl dX4_typeAt_9 ?_
  refine q_getR (q_sh78 w) (by decide) (by decide) rfl lfX4_18 dX4_typeAt_10 (r := 2) (q_wr78_0 w) ?_
  refine q_iload_n 2 rfl rfl dX4_typeAt_13 ?_
  obtain ⟨r3, e4, h⟩ := q_bind h
  refine q_callV (ci := 8) (d := 5) (Mc := mX8_elementStop) (kc := 0) (nc := 0) [.int x1] okX8_elementStop (q_sh2 w) (by decide) rfl lmX4_261 inX8_elementStop seX8_elementStop rfl (Nat.le_of_ble_eq_true rfl) (Nat.le_of_ble_eq_true rfl) (Nat.le_refl _) (Nat.le_refl _) dX4_typeAt_14 (q_L.deep (by decide) (kX8_elementStop (Q := fun r S' => r = some (.int r3) ∧ S' = S) w e4 ⟨rfl, rfl⟩)) (q_kI ?_)
  refine q_istore_n [(3, .int r3), (2, .int r1), (0, .ref 78), (1, .int x1)] rfl (by decide) rfl dX4_typeAt_17 ?_
  refine q_iload_n 0 rfl rfl dX4_typeAt_18 ?_
  refine q_aload_n 2 rfl rfl dX4_typeAt_19 ?_
  refine q_getR (q_sh78 w) (by decide) (by decide) rfl lfX4_18 dX4_typeAt_20 (r := 2) (q_wr78_0 w) ?_
  refine q_iload_n 3 rfl rfl dX4_typeAt_23 ?_
  obtain ⟨r5, e6, h⟩ := q_bind h
  refine q_callV (ci := 8) (d := 5) (Mc := mX8_stop) (kc := 0) (nc := 0) [.int x1] okX8_stop (q_sh2 w) (by decide) rfl lmX4_78 inX8_stop seX8_stop rfl (Nat.le_of_ble_eq_true rfl) (Nat.le_of_ble_eq_true rfl) (Nat.le_refl _) (Nat.le_refl _) dX4_typeAt_24 (q_L.deep (by decide) (kX8_stop (Q := fun r S' => r = some (.int r5) ∧ S' = S) w e6 ⟨rfl, rfl⟩)) (q_kI ?_)
  obtain ⟨v7, hv, h⟩ := q_bind h
  have K1 : q_L g mX4_typeAt 6 0 0 Q 0 0 35 [(0, .ref 78), (2, .int r1), (3, .int r3)] [.int (q_b v7)] S := by
    refine q_istore [(4, .int (q_b v7)), (0, .ref 78), (2, .int r1), (3, .int r3)] (by decide) rfl dX4_typeAt_35 ?_
    refine q_aload_n 1 rfl rfl dX4_typeAt_37 ?_
    refine q_getR (q_sh78 w) (by decide) (by decide) rfl lfX4_18 dX4_typeAt_38 (r := 2) (q_wr78_0 w) ?_
    refine q_iload_n 2 rfl rfl dX4_typeAt_41 ?_
    refine q_iload_n 3 rfl rfl dX4_typeAt_42 ?_
    refine q_ldcSw (j := 25) (r := 1000050) rfl rfl dX4_typeAt_43 ?_
    obtain ⟨r8, e9, h⟩ := q_bind h
    refine q_callV (ci := 8) (d := 5) (Mc := mX8_isText) (kc := 0) (nc := 0) [.int r1, .int r3, .ref 1000050] okX8_isText (q_sh2 w) (by decide) rfl lmX4_266 inX8_isText seX8_isText rfl (Nat.le_of_ble_eq_true rfl) (Nat.le_of_ble_eq_true rfl) (Nat.le_refl _) (Nat.le_refl _) dX4_typeAt_46 (q_L.deep (by decide) (kX8_isText (Q := fun r S' => r = some (.int (q_b r8)) ∧ S' = S) w e9 ⟨rfl, rfl⟩)) (q_kI ?_)
    refine q_if_eq 65 (by decide) dX4_typeAt_49 (fun c => ?_) (fun c => ?_)
    · have c := q_b_0.mp c; rw [q_if0 c] at h
      refine q_aload_n 1 rfl rfl dX4_typeAt_65 ?_
      refine q_iload_n 2 rfl rfl dX4_typeAt_66 ?_
      refine q_iload_n 3 rfl rfl dX4_typeAt_67 ?_
      obtain ⟨r10, e11, h⟩ := q_bind h
      refine q_callV (ci := 4) (d := 5) (Mc := mX4_classIn) (kc := 0) (nc := 0) [.int r1, .int r3] okX4_classIn (q_sh78 w) (by decide) rfl lmX4_240 inX4_classIn seX4_classIn rfl (Nat.le_of_ble_eq_true rfl) (Nat.le_of_ble_eq_true rfl) (Nat.le_refl _) (Nat.le_refl _) dX4_typeAt_68 (q_L.deep (by decide) (kX4_classIn (Q := fun r S' => r = some (.int r10) ∧ S' = S) w hp (aN) e11 ⟨rfl, rfl⟩)) (q_kI ?_)
      refine q_istore [(5, .int r10), (4, .int (q_b v7)), (0, .ref 78), (2, .int r1), (3, .int r3)] (by decide) rfl dX4_typeAt_71 ?_
      refine q_iload 1 rfl dX4_typeAt_73 ?_
      refine q_if_eq 86 (by decide) dX4_typeAt_75 (fun c => ?_) (fun c => ?_)
      · have c := q_b_0.mp c; rw [q_if0 c] at h
        refine q_iload 0 rfl dX4_typeAt_86 ?_
        obtain rfl := Option.some.inj h
        exact q_iret rfl rfl dX4_typeAt_88 hQ
      · have c := q_b_n.mp c; rw [q_if1 c] at h
        refine q_iload 0 rfl dX4_typeAt_78 ?_
        obtain ⟨r12, e13, h⟩ := q_bind h
        refine q_callS (d := 5) (Mc := mX4_arrayOf) (kc := 0) (nc := 0) [.int r10] okX4_arrayOf lmX4_228 inX4_arrayOf rfl (Nat.le_of_ble_eq_true rfl) (Nat.le_of_ble_eq_true rfl) (Nat.le_refl _) (Nat.le_refl _) dX4_typeAt_80 (q_L.deep (by decide) (kX4_arrayOf (Q := fun r S' => r = some (.int r12) ∧ S' = S) w e13 ⟨rfl, rfl⟩)) (q_kI ?_)
        refine q_goto 88 (by decide) dX4_typeAt_83 ?_
        obtain rfl := Option.some.inj h
        exact q_iret rfl rfl dX4_typeAt_88 hQ
    · have c := q_b_n.mp c; rw [q_if1 c] at h
      refine q_iload 0 rfl dX4_typeAt_52 ?_
      refine q_if_eq 62 (by decide) dX4_typeAt_54 (fun c => ?_) (fun c => ?_)
      · have c := q_b_0.mp c; rw [q_if0 c] at h
        refine q_bipush (v := (66 : Int32)) (by decide) dX4_typeAt_62 ?_
        obtain rfl := Option.some.inj h
        exact q_iret rfl rfl dX4_typeAt_64 hQ
      · have c := q_b_n.mp c; rw [q_if1 c] at h
        refine q_bipush (v := (64 : Int32)) (by decide) dX4_typeAt_57 ?_
        refine q_goto 64 (by decide) dX4_typeAt_59 ?_
        obtain rfl := Option.some.inj h
        exact q_iret rfl rfl dX4_typeAt_64 hQ
  replace h := hv
  refine q_icmp_ge 34 (by decide) dX4_typeAt_27 (fun c => ?_) (fun c => ?_)
  · rw [if_pos c] at h
    refine q_iconst (v := (0 : Int32)) (by decide) dX4_typeAt_34 ?_
    obtain rfl := Option.some.inj h
    refine q_sub [2, 1, 0] rfl ?_
    exact K1
  · rw [if_neg c] at h
    refine q_iconst (v := (1 : Int32)) (by decide) dX4_typeAt_30 ?_
    refine q_goto 35 (by decide) dX4_typeAt_31 ?_
    obtain rfl := Option.some.inj h
    refine q_sub [2, 1, 0] rfl ?_
    exact K1
set_option maxRecDepth 20000 in
theorem kX4_fieldFault {S : QS} {g : QG} {Q : Option Value → QS → Prop} {p : Nat} {x1 : Int32} {x2 : Int32} {r : Int32 × QS} (w : q_Wire S) (hp : q_pok p) (aN : q_aN S p) (h : fX4_fieldFault S p x1 x2 = some r) (hQ : Q (some (.int r.1)) r.2) : q_M g mX4_fieldFault 7 0 0 [.ref 78, .int x1, .int x2] S Q := by
  unfold fX4_fieldFault at h
  show q_L g mX4_fieldFault 7 0 0 Q 0 0 0 [(0, .ref 78), (1, .int x1), (2, .int x2)] [] S
  refine q_aload_n 0 rfl rfl dX4_fieldFault_0 ?_
  refine q_iload_n 2 rfl rfl dX4_fieldFault_1 ?_
  refine q_aload_n 0 rfl rfl dX4_fieldFault_2 ?_
  refine q_getR (q_sh78 w) (by decide) (by decide) rfl lfX4_18 dX4_fieldFault_3 (r := 2) (q_wr78_0 w) ?_
  refine q_iload_n 1 rfl rfl dX4_fieldFault_6 ?_
  refine q_iconst (v := (1 : Int32)) (by decide) dX4_fieldFault_7 ?_
  refine q_iadd dX4_fieldFault_8 ?_
  obtain ⟨r1, e2, h⟩ := q_bind h
  refine q_callV (ci := 8) (d := 6) (Mc := mX8_start) (kc := 0) (nc := 0) [.int (x1 + (1 : Int32))] okX8_start (q_sh2 w) (by decide) rfl lmX4_75 inX8_start seX8_start rfl (Nat.le_of_ble_eq_true rfl) (Nat.le_of_ble_eq_true rfl) (Nat.le_refl _) (Nat.le_refl _) dX4_fieldFault_9 (q_L.deep (by decide) (kX8_start (Q := fun r S' => r = some (.int r1) ∧ S' = S) w e2 ⟨rfl, rfl⟩)) (q_kI ?_)
  refine q_aload_n 0 rfl rfl dX4_fieldFault_12 ?_
  refine q_getR (q_sh78 w) (by decide) (by decide) rfl lfX4_18 dX4_fieldFault_13 (r := 2) (q_wr78_0 w) ?_
  refine q_iload_n 1 rfl rfl dX4_fieldFault_16 ?_
  refine q_iconst (v := (1 : Int32)) (by decide) dX4_fieldFault_17 ?_
  refine q_iadd dX4_fieldFault_18 ?_
  obtain ⟨r3, e4, h⟩ := q_bind h
  refine q_callV (ci := 8) (d := 6) (Mc := mX8_stop) (kc := 0) (nc := 0) [.int (x1 + (1 : Int32))] okX8_stop (q_sh2 w) (by decide) rfl lmX4_78 inX8_stop seX8_stop rfl (Nat.le_of_ble_eq_true rfl) (Nat.le_of_ble_eq_true rfl) (Nat.le_refl _) (Nat.le_refl _) dX4_fieldFault_19 (q_L.deep (by decide) (kX8_stop (Q := fun r S' => r = some (.int r3) ∧ S' = S) w e4 ⟨rfl, rfl⟩)) (q_kI ?_)
  obtain ⟨r5, e6, h⟩ := q_bind h
  refine q_callV (ci := 4) (d := 6) (Mc := mX4_fieldNamed) (kc := 0) (nc := 0) [.int x2, .int r1, .int r3] okX4_fieldNamed (q_sh78 w) (by decide) rfl lmX4_81 inX4_fieldNamed seX4_fieldNamed rfl (Nat.le_of_ble_eq_true rfl) (Nat.le_of_ble_eq_true rfl) (Nat.le_refl _) (Nat.le_refl _) dX4_fieldFault_22 (q_L.deep (by decide) (kX4_fieldNamed (Q := fun r S' => r = some (.int r5) ∧ S' = S) w hp (aN) e6 ⟨rfl, rfl⟩)) (q_kI ?_)
  refine q_istore_n [(3, .int r5), (0, .ref 78), (1, .int x1), (2, .int x2)] rfl (by decide) rfl dX4_fieldFault_25 ?_
  refine q_iload_n 0 rfl rfl dX4_fieldFault_26 ?_
  refine q_iconst (v := (-1 : Int32)) (by decide) dX4_fieldFault_27 ?_
  refine q_icmp_ne 43 (by decide) dX4_fieldFault_28 (fun c => ?_) (fun c => ?_)
  · rw [if_neg c] at h
    refine q_iload_n 2 rfl rfl dX4_fieldFault_43 ?_
    refine q_iconst (v := (1 : Int32)) (by decide) dX4_fieldFault_44 ?_
    refine q_iadd dX4_fieldFault_45 ?_
    obtain rfl := Option.some.inj h
    exact q_iret rfl rfl dX4_fieldFault_46 hQ
  · rw [if_pos c] at h
    refine q_aload_n 1 rfl rfl dX4_fieldFault_31 ?_
    refine q_getR (q_sh78 w) (by decide) (by decide) rfl lfX4_32 dX4_fieldFault_32 (r := (p + 1)) (aN).2.1 ?_
    refine q_getIN (q_shP1 w hp) (by decide) (by decide) rfl lfX4_85 dX4_fieldFault_35 ?_
    refine q_bipush (v := (48 : Int32)) (by decide) dX4_fieldFault_38 ?_
    refine q_icmp_ne 47 (by decide) dX4_fieldFault_40 (fun c => ?_) (fun c => ?_)
    · rw [if_neg c] at h
      refine q_aload_n 1 rfl rfl dX4_fieldFault_47 ?_
      refine q_iload_n 2 rfl rfl dX4_fieldFault_48 ?_
      refine q_iconst (v := (2 : Int32)) (by decide) dX4_fieldFault_49 ?_
      refine q_iadd dX4_fieldFault_50 ?_
      obtain ⟨r7, e8, h⟩ := q_bind h
      refine q_callV (ci := 4) (d := 6) (Mc := mX4_typeAt) (kc := 0) (nc := 0) [.int (x1 + (2 : Int32))] okX4_typeAt (q_sh78 w) (by decide) rfl lmX4_88 inX4_typeAt seX4_typeAt rfl (Nat.le_of_ble_eq_true rfl) (Nat.le_of_ble_eq_true rfl) (Nat.le_refl _) (Nat.le_refl _) dX4_fieldFault_51 (q_L.deep (by decide) (kX4_typeAt (Q := fun r S' => r = some (.int r7) ∧ S' = S) w hp (aN) e8 ⟨rfl, rfl⟩)) (q_kI ?_)
      refine q_istore [(4, .int r7), (3, .int r5), (0, .ref 78), (1, .int x1), (2, .int x2)] (by decide) rfl dX4_fieldFault_54 ?_
      refine q_iload 0 rfl dX4_fieldFault_56 ?_
      refine q_iconst (v := (-1 : Int32)) (by decide) dX4_fieldFault_58 ?_
      refine q_icmp_ne 66 (by decide) dX4_fieldFault_59 (fun c => ?_) (fun c => ?_)
      · rw [if_neg c] at h
        refine q_aload_n 2 rfl rfl dX4_fieldFault_66 ?_
        refine q_getR (q_sh78 w) (by decide) (by decide) rfl lfX4_32 dX4_fieldFault_67 (r := (p + 1)) (aN).2.1 ?_
        refine q_iload_n 4 rfl rfl dX4_fieldFault_70 ?_
        refine q_iload_n 3 rfl rfl dX4_fieldFault_71 ?_
        refine q_iconst (v := (1 : Int32)) (by decide) dX4_fieldFault_72 ?_
        refine q_iadd dX4_fieldFault_73 ?_
        refine q_iload 0 rfl dX4_fieldFault_74 ?_
        obtain ⟨r9, e10, h⟩ := q_bind h
        refine q_callV (ci := 0) (d := 6) (Mc := mX0_addField) (kc := 0) (nc := 0) [.int x2, .int (x1 + (1 : Int32)), .int r7] okX0_addField (q_shP1 w hp) (by decide) rfl lmX4_91 inX0_addField seX0_addField rfl (Nat.le_of_ble_eq_true rfl) (Nat.le_of_ble_eq_true rfl) (Nat.le_refl _) (Nat.le_refl _) dX4_fieldFault_76 (q_L.deep (by decide) (kX0_addField (Q := fun r S' => r = none ∧ S' = r9) w hp e10 ⟨rfl, rfl⟩)) (q_kV ?_)
        have fx11 : q_Fx S r9 := q_Fx.tr (q_Fx.rf S) (fxX0_addField e10)
        refine q_iconst (v := (-1 : Int32)) (by decide) dX4_fieldFault_79 ?_
        obtain rfl := Option.some.inj h
        exact q_iret rfl rfl dX4_fieldFault_80 hQ
      · rw [if_pos c] at h
        refine q_iload_n 3 rfl rfl dX4_fieldFault_62 ?_
        refine q_iconst (v := (2 : Int32)) (by decide) dX4_fieldFault_63 ?_
        refine q_iadd dX4_fieldFault_64 ?_
        obtain rfl := Option.some.inj h
        exact q_iret rfl rfl dX4_fieldFault_65 hQ
    · rw [if_pos c] at h
      refine q_iload_n 2 rfl rfl dX4_fieldFault_43 ?_
      refine q_iconst (v := (1 : Int32)) (by decide) dX4_fieldFault_44 ?_
      refine q_iadd dX4_fieldFault_45 ?_
      obtain rfl := Option.some.inj h
      exact q_iret rfl rfl dX4_fieldFault_46 hQ
set_option maxRecDepth 20000 in
theorem sX4_bodyNamed_6 {S : QS} {g : QG} {Q : Option Value → QS → Prop} {p : Nat} {y1 : Int32} {y2 : Int32} {y3 : Int32} {x : Int32 × Int32} {z : (Int32) ⊕ (Int32 × Int32)} (w : q_Wire S) (hp : q_pok p) (aN : q_aN S p) (h : tX4_bodyNamed_6 S p y1 y2 y3 x = some z) (hQ : (Sum.elim (fun r0 : Int32 => Q (some (.int r0)) S) (fun y : Int32 × Int32 => q_L g mX4_bodyNamed 1 0 0 Q 0 0 6 [(0, .ref 78), (1, .int y1), (2, .int y2), (3, .int y3), (4, .int y.1), (5, .int y.2)] [] S) z)) : q_L g mX4_bodyNamed 1 0 0 Q 0 0 6 [(0, .ref 78), (1, .int y1), (2, .int y2), (3, .int y3), (4, .int x.1), (5, .int x.2)] [] S := by
  unfold tX4_bodyNamed_6 at h
  refine q_iload 5 rfl dX4_bodyNamed_6 ?_
  refine q_aload_n 0 rfl rfl dX4_bodyNamed_8 ?_
  refine q_getR (q_sh78 w) (by decide) (by decide) rfl lfX4_22 dX4_bodyNamed_9 (r := p) (aN).1 ?_
  refine q_getIN (q_shP0 w hp) (by decide) (by decide) rfl lfX4_98 dX4_bodyNamed_12 ?_
  refine q_icmp_ge 71 (by decide) dX4_bodyNamed_15 (fun c => ?_) (fun c => ?_)
  · rw [if_pos c] at h
    refine q_iload 4 rfl dX4_bodyNamed_71 ?_
    cases h
    exact q_iret rfl rfl dX4_bodyNamed_73 hQ
  · rw [if_neg c] at h
    refine q_aload_n 0 rfl rfl dX4_bodyNamed_18 ?_
    refine q_getR (q_sh78 w) (by decide) (by decide) rfl lfX4_32 dX4_bodyNamed_19 (r := (p + 1)) (aN).2.1 ?_
    refine q_aload_n 0 rfl rfl dX4_bodyNamed_22 ?_
    refine q_getR (q_sh78 w) (by decide) (by decide) rfl lfX4_22 dX4_bodyNamed_23 (r := p) (aN).1 ?_
    refine q_getRN (q_shP0 w hp) (by decide) (by decide) rfl lfX4_138 dX4_bodyNamed_26 (r := (p + 23)) (q_wrP0_4 w hp) ?_
    refine q_iload 5 rfl dX4_bodyNamed_29 ?_
    obtain ⟨hg1, h⟩ := q_guard h
    refine q_iald (q_shP23 w hp) (q_inb_in hg1) dX4_bodyNamed_31 ?_
    refine q_iload_n 1 rfl rfl dX4_bodyNamed_32 ?_
    obtain ⟨r2, e3, h⟩ := q_bind h
    refine q_callV (ci := 0) (d := 0) (Mc := mX0_isAbove) (kc := 0) (nc := 0) [.int (S.2.1 (p + 23) x.2.toNatClampNeg), .int y1] okX0_isAbove (q_shP1 w hp) (by decide) rfl lmX4_195 inX0_isAbove seX0_isAbove rfl (Nat.le_of_ble_eq_true rfl) (Nat.le_of_ble_eq_true rfl) (Nat.le_refl _) (Nat.le_refl _) dX4_bodyNamed_33 (q_L.deep (by decide) (kX0_isAbove (Q := fun r S' => r = some (.int (q_b r2)) ∧ S' = S) w hp e3 ⟨rfl, rfl⟩)) (q_kI ?_)
    refine q_if_eq 65 (by decide) dX4_bodyNamed_36 (fun c => ?_) (fun c => ?_)
    · have c := q_b_0.mp c; rw [q_if0 c] at h
      refine q_iinc (v := (x.2 + (1 : Int32))) 5 [(5, .int (x.2 + (1 : Int32))), (0, .ref 78), (1, .int y1), (2, .int y2), (3, .int y3), (4, .int x.1)] (by decide) rfl (congrArg (fun t => x.2 + t) (by decide)) rfl dX4_bodyNamed_65 ?_
      refine q_goto 6 (by decide) dX4_bodyNamed_68 ?_
      refine q_sub [1, 2, 3, 4, 5, 0] rfl ?_
      cases h
      exact hQ
    · have c := q_b_n.mp c; rw [q_if1 c] at h
      refine q_aload_n 0 rfl rfl dX4_bodyNamed_39 ?_
      refine q_getR (q_sh78 w) (by decide) (by decide) rfl lfX4_18 dX4_bodyNamed_40 (r := 2) (q_wr78_0 w) ?_
      refine q_aload_n 0 rfl rfl dX4_bodyNamed_43 ?_
      refine q_getR (q_sh78 w) (by decide) (by decide) rfl lfX4_22 dX4_bodyNamed_44 (r := p) (aN).1 ?_
      refine q_getRN (q_shP0 w hp) (by decide) (by decide) rfl lfX4_141 dX4_bodyNamed_47 (r := (p + 22)) (q_wrP0_3 w hp) ?_
      refine q_iload 5 rfl dX4_bodyNamed_50 ?_
      obtain ⟨hg4, h⟩ := q_guard h
      refine q_iald (q_shP22 w hp) (q_inb_in hg4) dX4_bodyNamed_52 ?_
      refine q_iload_n 2 rfl rfl dX4_bodyNamed_53 ?_
      refine q_iload_n 3 rfl rfl dX4_bodyNamed_54 ?_
      obtain ⟨r5, e6, h⟩ := q_bind h
      refine q_callV (ci := 8) (d := 0) (Mc := mX8_same) (kc := 0) (nc := 0) [.int (S.2.1 (p + 22) x.2.toNatClampNeg), .int y2, .int y3] okX8_same (q_sh2 w) (by decide) rfl lmX4_147 inX8_same seX8_same rfl (Nat.le_of_ble_eq_true rfl) (Nat.le_of_ble_eq_true rfl) (Nat.le_refl _) (Nat.le_refl _) dX4_bodyNamed_55 (q_L.deep (by decide) (kX8_same (Q := fun r S' => r = some (.int (q_b r5)) ∧ S' = S) w e6 ⟨rfl, rfl⟩)) (q_kI ?_)
      refine q_if_eq 65 (by decide) dX4_bodyNamed_58 (fun c => ?_) (fun c => ?_)
      · have c := q_b_0.mp c; rw [q_if0 c] at h
        refine q_iinc (v := (x.2 + (1 : Int32))) 5 [(5, .int (x.2 + (1 : Int32))), (0, .ref 78), (1, .int y1), (2, .int y2), (3, .int y3), (4, .int x.1)] (by decide) rfl (congrArg (fun t => x.2 + t) (by decide)) rfl dX4_bodyNamed_65 ?_
        refine q_goto 6 (by decide) dX4_bodyNamed_68 ?_
        refine q_sub [1, 2, 3, 4, 5, 0] rfl ?_
        cases h
        exact hQ
      · have c := q_b_n.mp c; rw [q_if1 c] at h
        refine q_iload 5 rfl dX4_bodyNamed_61 ?_
        refine q_istore [(4, .int x.2), (0, .ref 78), (1, .int y1), (2, .int y2), (3, .int y3), (5, .int x.2)] (by decide) rfl dX4_bodyNamed_63 ?_
        refine q_iinc (v := (x.2 + (1 : Int32))) 5 [(5, .int (x.2 + (1 : Int32))), (4, .int x.2), (0, .ref 78), (1, .int y1), (2, .int y2), (3, .int y3)] (by decide) rfl (congrArg (fun t => x.2 + t) (by decide)) rfl dX4_bodyNamed_65 ?_
        refine q_goto 6 (by decide) dX4_bodyNamed_68 ?_
        refine q_sub [2, 3, 4, 5, 1, 0] rfl ?_
        cases h
        exact hQ
theorem lX4_bodyNamed_6 {S : QS} {g : QG} {Q : Option Value → QS → Prop} {p : Nat} {y1 : Int32} {y2 : Int32} {y3 : Int32} {r : Int32} (w : q_Wire S) (hp : q_pok p) (aN : q_aN S p) (hQ : Q (some (.int r)) S) : ∀ (c : Nat) (x : Int32 × Int32), q_it (tX4_bodyNamed_6 S p y1 y2 y3) c x = some r → q_L g mX4_bodyNamed 1 0 0 Q 0 0 6 [(0, .ref 78), (1, .int y1), (2, .int y2), (3, .int y3), (4, .int x.1), (5, .int x.2)] [] S := by
  intro c
  induction c with
  | zero => intro x  h; cases h
  | succ c ih =>
    intro x  h
    simp only [q_it] at h
    cases hz : tX4_bodyNamed_6 S p y1 y2 y3 x with
    | none => rw [hz] at h; cases h
    | some z =>
      rw [hz] at h
      refine sX4_bodyNamed_6 w hp aN hz ?_
      rcases z with z | y
      · cases h; exact hQ
      · exact ih y  h
theorem kX4_bodyNamed_6 {S : QS} {g : QG} {Q : Option Value → QS → Prop} {p : Nat} {y1 : Int32} {y2 : Int32} {y3 : Int32} {y4 : Int32} {y5 : Int32} {r : Int32} (w : q_Wire S) (hp : q_pok p) (aN : q_aN S p) (h : fX4_bodyNamed_6 S p y1 y2 y3 y4 y5 = some r) (hQ : Q (some (.int r)) S) : q_L g mX4_bodyNamed 1 0 0 Q 0 0 6 [(0, .ref 78), (1, .int y1), (2, .int y2), (3, .int y3), (4, .int y4), (5, .int y5)] [] S := by
  obtain ⟨c, hc⟩ := q_run_it h
  exact lX4_bodyNamed_6 w hp aN hQ c (y4, y5)  hc
set_option maxRecDepth 20000 in
theorem kX4_bodyNamed {S : QS} {g : QG} {Q : Option Value → QS → Prop} {p : Nat} {x1 : Int32} {x2 : Int32} {x3 : Int32} {r : Int32} (w : q_Wire S) (hp : q_pok p) (aN : q_aN S p) (h : fX4_bodyNamed S p x1 x2 x3 = some r) (hQ : Q (some (.int r)) S) : q_M g mX4_bodyNamed 1 0 0 [.ref 78, .int x1, .int x2, .int x3] S Q := by
  unfold fX4_bodyNamed at h
  show q_L g mX4_bodyNamed 1 0 0 Q 0 0 0 [(0, .ref 78), (1, .int x1), (2, .int x2), (3, .int x3)] [] S
  refine q_iconst (v := (-1 : Int32)) (by decide) dX4_bodyNamed_0 ?_
  refine q_istore [(4, .int (-1 : Int32)), (0, .ref 78), (1, .int x1), (2, .int x2), (3, .int x3)] (by decide) rfl dX4_bodyNamed_1 ?_
  refine q_iconst (v := (0 : Int32)) (by decide) dX4_bodyNamed_3 ?_
  refine q_istore [(5, .int (0 : Int32)), (4, .int (-1 : Int32)), (0, .ref 78), (1, .int x1), (2, .int x2), (3, .int x3)] (by decide) rfl dX4_bodyNamed_4 ?_
  refine q_sub [2, 3, 4, 5, 1, 0] rfl ?_
  exact kX4_bodyNamed_6 w hp (aN) h hQ
set_option maxRecDepth 20000 in
theorem sX4_hasSameHead_9 {S : QS} {g : QG} {Q : Option Value → QS → Prop}  {y3 : Int32} {x : Int32} {z : (Bool) ⊕ (Int32)} (w : q_Wire S) (h : tX4_hasSameHead_9 S y3 x = some z) (hQ : (Sum.elim (fun r0 : Bool => Q (some (.int (q_b r0))) S) (fun y : Int32 => q_L g mX4_hasSameHead 1 0 0 Q 0 0 9 [(0, .ref 78), (3, .int y3), (4, .int y)] [] S) z)) : q_L g mX4_hasSameHead 1 0 0 Q 0 0 9 [(0, .ref 78), (3, .int y3), (4, .int x)] [] S := by
  unfold tX4_hasSameHead_9 at h
  refine q_iload 2 rfl dX4_hasSameHead_9 ?_
  refine q_aload_n 0 rfl rfl dX4_hasSameHead_11 ?_
  refine q_getR (q_sh78 w) (by decide) (by decide) rfl lfX4_18 dX4_hasSameHead_12 (r := 2) (q_wr78_0 w) ?_
  refine q_getIN (q_sh2 w) (by decide) (by decide) rfl lfX4_41 dX4_hasSameHead_15 ?_
  refine q_icmp_ge 115 (by decide) dX4_hasSameHead_18 (fun c => ?_) (fun c => ?_)
  · rw [if_pos c] at h
    refine q_iconst (v := (0 : Int32)) (by decide) dX4_hasSameHead_115 ?_
    cases h
    exact q_iret rfl (by decide) dX4_hasSameHead_116 hQ
  · rw [if_neg c] at h
    refine q_aload_n 0 rfl rfl dX4_hasSameHead_21 ?_
    refine q_getR (q_sh78 w) (by decide) (by decide) rfl lfX4_18 dX4_hasSameHead_22 (r := 2) (q_wr78_0 w) ?_
    refine q_iload 2 rfl dX4_hasSameHead_25 ?_
    refine q_aload_n 0 rfl rfl dX4_hasSameHead_27 ?_
    refine q_getR (q_sh78 w) (by decide) (by decide) rfl lfX4_18 dX4_hasSameHead_28 (r := 2) (q_wr78_0 w) ?_
    refine q_iload 2 rfl dX4_hasSameHead_31 ?_
    refine q_iload_n 1 rfl rfl dX4_hasSameHead_33 ?_
    refine q_iadd dX4_hasSameHead_34 ?_
    obtain ⟨r1, e2, h⟩ := q_bind h
    refine q_callV (ci := 8) (d := 0) (Mc := mX8_start) (kc := 0) (nc := 0) [.int (x + y3)] okX8_start (q_sh2 w) (by decide) rfl lmX4_75 inX8_start seX8_start rfl (Nat.le_of_ble_eq_true rfl) (Nat.le_of_ble_eq_true rfl) (Nat.le_refl _) (Nat.le_refl _) dX4_hasSameHead_35 (q_L.deep (by decide) (kX8_start (Q := fun r S' => r = some (.int r1) ∧ S' = S) w e2 ⟨rfl, rfl⟩)) (q_kI ?_)
    refine q_aload_n 0 rfl rfl dX4_hasSameHead_38 ?_
    refine q_getR (q_sh78 w) (by decide) (by decide) rfl lfX4_18 dX4_hasSameHead_39 (r := 2) (q_wr78_0 w) ?_
    refine q_iload 2 rfl dX4_hasSameHead_42 ?_
    refine q_iload_n 1 rfl rfl dX4_hasSameHead_44 ?_
    refine q_iadd dX4_hasSameHead_45 ?_
    obtain ⟨r3, e4, h⟩ := q_bind h
    refine q_callV (ci := 8) (d := 0) (Mc := mX8_stop) (kc := 0) (nc := 0) [.int (x + y3)] okX8_stop (q_sh2 w) (by decide) rfl lmX4_78 inX8_stop seX8_stop rfl (Nat.le_of_ble_eq_true rfl) (Nat.le_of_ble_eq_true rfl) (Nat.le_refl _) (Nat.le_refl _) dX4_hasSameHead_46 (q_L.deep (by decide) (kX8_stop (Q := fun r S' => r = some (.int r3) ∧ S' = S) w e4 ⟨rfl, rfl⟩)) (q_kI ?_)
    obtain ⟨r5, e6, h⟩ := q_bind h
    refine q_callV (ci := 8) (d := 0) (Mc := mX8_same) (kc := 0) (nc := 0) [.int x, .int r1, .int r3] okX8_same (q_sh2 w) (by decide) rfl lmX4_147 inX8_same seX8_same rfl (Nat.le_of_ble_eq_true rfl) (Nat.le_of_ble_eq_true rfl) (Nat.le_refl _) (Nat.le_refl _) dX4_hasSameHead_49 (q_L.deep (by decide) (kX8_same (Q := fun r S' => r = some (.int (q_b r5)) ∧ S' = S) w e6 ⟨rfl, rfl⟩)) (q_kI ?_)
    refine q_if_ne 57 (by decide) dX4_hasSameHead_52 (fun c => ?_) (fun c => ?_)
    · have c := q_b_n.mp c; rw [q_if1 c] at h
      refine q_aload_n 0 rfl rfl dX4_hasSameHead_57 ?_
      refine q_getR (q_sh78 w) (by decide) (by decide) rfl lfX4_18 dX4_hasSameHead_58 (r := 2) (q_wr78_0 w) ?_
      refine q_iload 2 rfl dX4_hasSameHead_61 ?_
      refine q_bipush (v := (41 : Int32)) (by decide) dX4_hasSameHead_63 ?_
      obtain ⟨r7, e8, h⟩ := q_bind h
      refine q_callV (ci := 8) (d := 0) (Mc := mX8_isMark) (kc := 0) (nc := 0) [.int x, .int (41 : Int32)] okX8_isMark (q_sh2 w) (by decide) rfl lmX4_109 inX8_isMark seX8_isMark rfl (Nat.le_of_ble_eq_true rfl) (Nat.le_of_ble_eq_true rfl) (Nat.le_refl _) (Nat.le_refl _) dX4_hasSameHead_65 (q_L.deep (by decide) (kX8_isMark (Q := fun r S' => r = some (.int (q_b r7)) ∧ S' = S) w e8 ⟨rfl, rfl⟩)) (q_kI ?_)
      refine q_if_eq 109 (by decide) dX4_hasSameHead_68 (fun c => ?_) (fun c => ?_)
      · have c := q_b_0.mp c; rw [q_if0 c] at h
        refine q_iinc (v := (x + (1 : Int32))) 2 [(4, .int (x + (1 : Int32))), (0, .ref 78), (3, .int y3)] (by decide) rfl (congrArg (fun t => x + t) (by decide)) rfl dX4_hasSameHead_109 ?_
        refine q_goto 9 (by decide) dX4_hasSameHead_112 ?_
        refine q_sub [1, 2, 0] rfl ?_
        cases h
        exact hQ
      · have c := q_b_n.mp c; rw [q_if1 c] at h
        refine q_aload_n 0 rfl rfl dX4_hasSameHead_71 ?_
        refine q_getR (q_sh78 w) (by decide) (by decide) rfl lfX4_18 dX4_hasSameHead_72 (r := 2) (q_wr78_0 w) ?_
        refine q_iload 2 rfl dX4_hasSameHead_75 ?_
        refine q_iconst (v := (1 : Int32)) (by decide) dX4_hasSameHead_77 ?_
        refine q_iadd dX4_hasSameHead_78 ?_
        refine q_aload_n 0 rfl rfl dX4_hasSameHead_79 ?_
        refine q_getR (q_sh78 w) (by decide) (by decide) rfl lfX4_18 dX4_hasSameHead_80 (r := 2) (q_wr78_0 w) ?_
        refine q_iload 2 rfl dX4_hasSameHead_83 ?_
        refine q_iload_n 1 rfl rfl dX4_hasSameHead_85 ?_
        refine q_iadd dX4_hasSameHead_86 ?_
        refine q_iconst (v := (1 : Int32)) (by decide) dX4_hasSameHead_87 ?_
        refine q_iadd dX4_hasSameHead_88 ?_
        obtain ⟨r9, e10, h⟩ := q_bind h
        refine q_callV (ci := 8) (d := 0) (Mc := mX8_start) (kc := 0) (nc := 0) [.int ((x + y3) + (1 : Int32))] okX8_start (q_sh2 w) (by decide) rfl lmX4_75 inX8_start seX8_start rfl (Nat.le_of_ble_eq_true rfl) (Nat.le_of_ble_eq_true rfl) (Nat.le_refl _) (Nat.le_refl _) dX4_hasSameHead_89 (q_L.deep (by decide) (kX8_start (Q := fun r S' => r = some (.int r9) ∧ S' = S) w e10 ⟨rfl, rfl⟩)) (q_kI ?_)
        refine q_aload_n 0 rfl rfl dX4_hasSameHead_92 ?_
        refine q_getR (q_sh78 w) (by decide) (by decide) rfl lfX4_18 dX4_hasSameHead_93 (r := 2) (q_wr78_0 w) ?_
        refine q_iload 2 rfl dX4_hasSameHead_96 ?_
        refine q_iload_n 1 rfl rfl dX4_hasSameHead_98 ?_
        refine q_iadd dX4_hasSameHead_99 ?_
        refine q_iconst (v := (1 : Int32)) (by decide) dX4_hasSameHead_100 ?_
        refine q_iadd dX4_hasSameHead_101 ?_
        obtain ⟨r11, e12, h⟩ := q_bind h
        refine q_callV (ci := 8) (d := 0) (Mc := mX8_stop) (kc := 0) (nc := 0) [.int ((x + y3) + (1 : Int32))] okX8_stop (q_sh2 w) (by decide) rfl lmX4_78 inX8_stop seX8_stop rfl (Nat.le_of_ble_eq_true rfl) (Nat.le_of_ble_eq_true rfl) (Nat.le_refl _) (Nat.le_refl _) dX4_hasSameHead_102 (q_L.deep (by decide) (kX8_stop (Q := fun r S' => r = some (.int r11) ∧ S' = S) w e12 ⟨rfl, rfl⟩)) (q_kI ?_)
        obtain ⟨r13, e14, h⟩ := q_bind h
        refine q_callV (ci := 8) (d := 0) (Mc := mX8_same) (kc := 0) (nc := 0) [.int (x + (1 : Int32)), .int r9, .int r11] okX8_same (q_sh2 w) (by decide) rfl lmX4_147 inX8_same seX8_same rfl (Nat.le_of_ble_eq_true rfl) (Nat.le_of_ble_eq_true rfl) (Nat.le_refl _) (Nat.le_refl _) dX4_hasSameHead_105 (q_L.deep (by decide) (kX8_same (Q := fun r S' => r = some (.int (q_b r13)) ∧ S' = S) w e14 ⟨rfl, rfl⟩)) (q_kI ?_)
        cases h
        exact q_iret rfl (q_b_nar _) dX4_hasSameHead_108 hQ
    · have c := q_b_0.mp c; rw [q_if0 c] at h
      refine q_iconst (v := (0 : Int32)) (by decide) dX4_hasSameHead_55 ?_
      cases h
      exact q_iret rfl (by decide) dX4_hasSameHead_56 hQ
theorem lX4_hasSameHead_9 {S : QS} {g : QG} {Q : Option Value → QS → Prop}  {y3 : Int32} {r : Bool} (w : q_Wire S) (hQ : Q (some (.int (q_b r))) S) : ∀ (c : Nat) (x : Int32), q_it (tX4_hasSameHead_9 S y3) c x = some r → q_L g mX4_hasSameHead 1 0 0 Q 0 0 9 [(0, .ref 78), (3, .int y3), (4, .int x)] [] S := by
  intro c
  induction c with
  | zero => intro x  h; cases h
  | succ c ih =>
    intro x  h
    simp only [q_it] at h
    cases hz : tX4_hasSameHead_9 S y3 x with
    | none => rw [hz] at h; cases h
    | some z =>
      rw [hz] at h
      refine sX4_hasSameHead_9 w hz ?_
      rcases z with z | y
      · cases h; exact hQ
      · exact ih y  h
theorem kX4_hasSameHead_9 {S : QS} {g : QG} {Q : Option Value → QS → Prop}  {y3 : Int32} {y4 : Int32} {r : Bool} (w : q_Wire S) (h : fX4_hasSameHead_9 S y3 y4 = some r) (hQ : Q (some (.int (q_b r))) S) : q_L g mX4_hasSameHead 1 0 0 Q 0 0 9 [(0, .ref 78), (3, .int y3), (4, .int y4)] [] S := by
  obtain ⟨c, hc⟩ := q_run_it h
  exact lX4_hasSameHead_9 w hQ c y4  hc
set_option maxRecDepth 20000 in
theorem kX4_hasSameHead {S : QS} {g : QG} {Q : Option Value → QS → Prop}  {x1 : Int32} {x2 : Int32} {r : Bool} (w : q_Wire S) (h : fX4_hasSameHead S x1 x2 = some r) (hQ : Q (some (.int (q_b r))) S) : q_M g mX4_hasSameHead 1 0 0 [.ref 78, .int x1, .int x2] S Q := by
  unfold fX4_hasSameHead at h
  show q_L g mX4_hasSameHead 1 0 0 Q 0 0 0 [(0, .ref 78), (1, .int x1), (2, .int x2)] [] S
  refine q_iload_n 2 rfl rfl dX4_hasSameHead_0 ?_
  refine q_iload_n 1 rfl rfl dX4_hasSameHead_1 ?_
  refine q_isub dX4_hasSameHead_2 ?_
  refine q_istore_n [(3, .int (x2 - x1)), (0, .ref 78), (1, .int x1), (2, .int x2)] rfl (by decide) rfl dX4_hasSameHead_3 ?_
  refine q_iload_n 2 rfl rfl dX4_hasSameHead_4 ?_
  refine q_iconst (v := (1 : Int32)) (by decide) dX4_hasSameHead_5 ?_
  refine q_iadd dX4_hasSameHead_6 ?_
  refine q_istore [(4, .int (x1 + (1 : Int32))), (3, .int (x2 - x1)), (0, .ref 78), (1, .int x1), (2, .int x2)] (by decide) rfl dX4_hasSameHead_7 ?_
  refine q_sub [2, 1, 0] rfl ?_
  exact kX4_hasSameHead_9 w h hQ
set_option maxRecDepth 20000 in
theorem kX4_mayReplace {S : QS} {g : QG} {Q : Option Value → QS → Prop} {p : Nat} {x1 : Int32} {x2 : Int32} {x3 : Int32} {r : Bool} (w : q_Wire S) (hp : q_pok p) (aN : q_aN S p) (h : fX4_mayReplace S p x1 x2 x3 = some r) (hQ : Q (some (.int (q_b r))) S) : q_M g mX4_mayReplace 2 0 0 [.ref 78, .int x1, .int x2, .int x3] S Q := by
  unfold fX4_mayReplace at h
  show q_L g mX4_mayReplace 2 0 0 Q 0 0 0 [(0, .ref 78), (1, .int x1), (2, .int x2), (3, .int x3)] [] S
  refine q_aload_n 0 rfl rfl dX4_mayReplace_0 ?_
  refine q_getR (q_sh78 w) (by decide) (by decide) rfl lfX4_18 dX4_mayReplace_1 (r := 2) (q_wr78_0 w) ?_
  refine q_getRN (q_sh2 w) (by decide) (by decide) rfl lfX4_47 dX4_mayReplace_4 (r := 6) (q_wr2_4 w) ?_
  refine q_iload_n 1 rfl rfl dX4_mayReplace_7 ?_
  obtain ⟨hg1, h⟩ := q_guard h
  refine q_bald (q_sh6 w) (q_inb_in hg1) dX4_mayReplace_8 ?_
  refine q_bipush (v := (51 : Int32)) (by decide) dX4_mayReplace_9 ?_
  refine q_icmp_ne 62 (by decide) dX4_mayReplace_11 (fun c => ?_) (fun c => ?_)
  · rw [if_neg c] at h
    refine q_iconst (v := (0 : Int32)) (by decide) dX4_mayReplace_62 ?_
    obtain rfl := Option.some.inj h
    exact q_iret rfl (by decide) dX4_mayReplace_63 hQ
  · rw [if_pos c] at h
    refine q_aload_n 0 rfl rfl dX4_mayReplace_14 ?_
    refine q_getR (q_sh78 w) (by decide) (by decide) rfl lfX4_22 dX4_mayReplace_15 (r := p) (aN).1 ?_
    refine q_getRN (q_shP0 w hp) (by decide) (by decide) rfl lfX4_134 dX4_mayReplace_18 (r := (p + 24)) (q_wrP0_5 w hp) ?_
    refine q_iload_n 3 rfl rfl dX4_mayReplace_21 ?_
    obtain ⟨hg2, h⟩ := q_guard h
    refine q_zald (q_shP24 w hp) (q_inb_in hg2) dX4_mayReplace_22 ?_
    refine q_if_eq 62 (by decide) dX4_mayReplace_23 (fun c => ?_) (fun c => ?_)
    · rw [if_pos c] at h
      refine q_iconst (v := (0 : Int32)) (by decide) dX4_mayReplace_62 ?_
      obtain rfl := Option.some.inj h
      exact q_iret rfl (by decide) dX4_mayReplace_63 hQ
    · rw [if_neg c] at h
      refine q_aload_n 0 rfl rfl dX4_mayReplace_26 ?_
      refine q_getR (q_sh78 w) (by decide) (by decide) rfl lfX4_22 dX4_mayReplace_27 (r := p) (aN).1 ?_
      refine q_getRN (q_shP0 w hp) (by decide) (by decide) rfl lfX4_138 dX4_mayReplace_30 (r := (p + 23)) (q_wrP0_4 w hp) ?_
      refine q_iload_n 3 rfl rfl dX4_mayReplace_33 ?_
      obtain ⟨hg3, h⟩ := q_guard h
      refine q_iald (q_shP23 w hp) (q_inb_in hg3) dX4_mayReplace_34 ?_
      refine q_iload_n 2 rfl rfl dX4_mayReplace_35 ?_
      refine q_icmp_eq 62 (by decide) dX4_mayReplace_36 (fun c => ?_) (fun c => ?_)
      · rw [if_pos c] at h
        refine q_iconst (v := (0 : Int32)) (by decide) dX4_mayReplace_62 ?_
        obtain rfl := Option.some.inj h
        exact q_iret rfl (by decide) dX4_mayReplace_63 hQ
      · rw [if_neg c] at h
        refine q_aload_n 0 rfl rfl dX4_mayReplace_39 ?_
        refine q_iload_n 1 rfl rfl dX4_mayReplace_40 ?_
        refine q_iconst (v := (1 : Int32)) (by decide) dX4_mayReplace_41 ?_
        refine q_iadd dX4_mayReplace_42 ?_
        refine q_aload_n 0 rfl rfl dX4_mayReplace_43 ?_
        refine q_getR (q_sh78 w) (by decide) (by decide) rfl lfX4_22 dX4_mayReplace_44 (r := p) (aN).1 ?_
        refine q_getRN (q_shP0 w hp) (by decide) (by decide) rfl lfX4_141 dX4_mayReplace_47 (r := (p + 22)) (q_wrP0_3 w hp) ?_
        refine q_iload_n 3 rfl rfl dX4_mayReplace_50 ?_
        obtain ⟨hg4, h⟩ := q_guard h
        refine q_iald (q_shP22 w hp) (q_inb_in hg4) dX4_mayReplace_51 ?_
        obtain ⟨r5, e6, h⟩ := q_bind h
        refine q_callV (ci := 4) (d := 1) (Mc := mX4_hasSameHead) (kc := 0) (nc := 0) [.int (x1 + (1 : Int32)), .int (S.2.1 (p + 22) x3.toNatClampNeg)] okX4_hasSameHead (q_sh78 w) (by decide) rfl lmX4_144 inX4_hasSameHead seX4_hasSameHead rfl (Nat.le_of_ble_eq_true rfl) (Nat.le_of_ble_eq_true rfl) (Nat.le_refl _) (Nat.le_refl _) dX4_mayReplace_52 (q_L.deep (by decide) (kX4_hasSameHead (Q := fun r S' => r = some (.int (q_b r5)) ∧ S' = S) w e6 ⟨rfl, rfl⟩)) (q_kI ?_)
        refine q_if_eq 62 (by decide) dX4_mayReplace_55 (fun c => ?_) (fun c => ?_)
        · have c := q_b_0.mp c; rw [q_if0 c] at h
          refine q_iconst (v := (0 : Int32)) (by decide) dX4_mayReplace_62 ?_
          obtain rfl := Option.some.inj h
          exact q_iret rfl (by decide) dX4_mayReplace_63 hQ
        · have c := q_b_n.mp c; rw [q_if1 c] at h
          refine q_iconst (v := (1 : Int32)) (by decide) dX4_mayReplace_58 ?_
          refine q_goto 63 (by decide) dX4_mayReplace_59 ?_
          obtain rfl := Option.some.inj h
          exact q_iret rfl (by decide) dX4_mayReplace_63 hQ
set_option maxRecDepth 20000 in
theorem kX4_headFault_162 {S : QS} {g : QG} {Q : Option Value → QS → Prop} {p : Nat} {y4 : Int32} {y5 : Int32} {r : Int32 × QS} (w : q_Wire S) (hp : q_pok p) (aN : q_aN S p) (h : fX4_headFault_162 S p y4 y5 = some r) (hQ : Q (some (.int r.1)) r.2) : q_L g mX4_headFault 7 0 0 Q 0 0 162 [(0, .ref 78), (4, .int y4), (5, .int y5)] [] S := by
  unfold fX4_headFault_162 at h
  refine q_aload_n 0 rfl rfl dX4_headFault_162 ?_
  refine q_getR (q_sh78 w) (by decide) (by decide) rfl lfX4_18 dX4_headFault_163 (r := 2) (q_wr78_0 w) ?_
  refine q_iload 2 rfl dX4_headFault_166 ?_
  refine q_iconst (v := (1 : Int32)) (by decide) dX4_headFault_168 ?_
  refine q_iadd dX4_headFault_169 ?_
  refine q_ldcS (j := 26) (r := 1000052) rfl rfl dX4_headFault_170 ?_
  obtain ⟨r1, e2, h⟩ := q_bind h
  refine q_callV (ci := 8) (d := 6) (Mc := mX8_isWord) (kc := 0) (nc := 0) [.int (y5 + (1 : Int32)), .ref 1000052] okX8_isWord (q_sh2 w) (by decide) rfl lmX4_118 inX8_isWord seX8_isWord rfl (Nat.le_of_ble_eq_true rfl) (Nat.le_of_ble_eq_true rfl) (Nat.le_refl _) (Nat.le_refl _) dX4_headFault_172 (q_L.deep (by decide) (kX8_isWord (Q := fun r S' => r = some (.int (q_b r1)) ∧ S' = S) w e2 ⟨rfl, rfl⟩)) (q_kI ?_)
  obtain ⟨v5, hv, h⟩ := q_bind h
  have K1 : q_L g mX4_headFault 7 0 0 Q 0 0 191 [(0, .ref 78), (4, .int y4), (5, .int y5)] [.int v5] S := by
    refine q_istore [(6, .int v5), (0, .ref 78), (4, .int y4), (5, .int y5)] (by decide) rfl dX4_headFault_191 ?_
    refine q_iload 0 rfl dX4_headFault_193 ?_
    refine q_iconst (v := (-1 : Int32)) (by decide) dX4_headFault_195 ?_
    refine q_icmp_ne 204 (by decide) dX4_headFault_196 (fun c => ?_) (fun c => ?_)
    · rw [if_neg c] at h
      refine q_aload_n 1 rfl rfl dX4_headFault_204 ?_
      refine q_getR (q_sh78 w) (by decide) (by decide) rfl lfX4_18 dX4_headFault_205 (r := 2) (q_wr78_0 w) ?_
      refine q_iload 3 rfl dX4_headFault_208 ?_
      refine q_iconst (v := (2 : Int32)) (by decide) dX4_headFault_210 ?_
      refine q_iadd dX4_headFault_211 ?_
      obtain ⟨r6, e7, h⟩ := q_bind h
      refine q_callV (ci := 8) (d := 6) (Mc := mX8_number) (kc := 0) (nc := 0) [.int (y5 + (2 : Int32))] okX8_number (q_sh2 w) (by decide) rfl lmX4_122 inX8_number seX8_number rfl (Nat.le_of_ble_eq_true rfl) (Nat.le_of_ble_eq_true rfl) (Nat.le_refl _) (Nat.le_refl _) dX4_headFault_212 (q_L.deep (by decide) (kX8_number (Q := fun r S' => r = some (.int r6) ∧ S' = S) w e7 ⟨rfl, rfl⟩)) (q_kI ?_)
      refine q_istore [(7, .int r6), (6, .int v5), (0, .ref 78), (4, .int y4), (5, .int y5)] (by decide) rfl dX4_headFault_215 ?_
      refine q_iload 0 rfl dX4_headFault_217 ?_
      refine q_aload_n 2 rfl rfl dX4_headFault_219 ?_
      refine q_getR (q_sh78 w) (by decide) (by decide) rfl lfX4_22 dX4_headFault_220 (r := p) (aN).1 ?_
      refine q_getRN (q_shP0 w hp) (by decide) (by decide) rfl lfX4_125 dX4_headFault_223 (r := (p + 25)) (q_wrP0_6 w hp) ?_
      refine q_iload 3 rfl dX4_headFault_226 ?_
      obtain ⟨hg8, h⟩ := q_guard h
      refine q_iald (q_shP25 w hp) (q_inb_in hg8) dX4_headFault_228 ?_
      refine q_icmp_lt 239 (by decide) dX4_headFault_229 (fun c => ?_) (fun c => ?_)
      · rw [if_pos c] at h
        refine q_iload 4 rfl dX4_headFault_239 ?_
        refine q_iconst (v := (2 : Int32)) (by decide) dX4_headFault_241 ?_
        refine q_iadd dX4_headFault_242 ?_
        obtain rfl := Option.some.inj h
        exact q_iret rfl rfl dX4_headFault_243 hQ
      · rw [if_neg c] at h
        refine q_iload 0 rfl dX4_headFault_232 ?_
        refine q_bipush (v := (12 : Int32)) (by decide) dX4_headFault_234 ?_
        refine q_icmp_le 244 (by decide) dX4_headFault_236 (fun c => ?_) (fun c => ?_)
        · rw [if_pos c] at h
          refine q_aload_n 2 rfl rfl dX4_headFault_244 ?_
          refine q_getR (q_sh78 w) (by decide) (by decide) rfl lfX4_22 dX4_headFault_245 (r := p) (aN).1 ?_
          refine q_getRN (q_shP0 w hp) (by decide) (by decide) rfl lfX4_128 dX4_headFault_248 (r := (p + 27)) (q_wrP0_8 w hp) ?_
          refine q_iload 3 rfl dX4_headFault_251 ?_
          refine q_iload 1 rfl dX4_headFault_253 ?_
          obtain ⟨hg9, h⟩ := q_guard h
          refine q_iast (q_shP27 w hp) (q_inb_in hg9) dX4_headFault_255 ?_
          obtain ⟨S10, e11, h⟩ := q_bindS h
          refine q_st e11 ?_
          have fx12 : q_Fx S S10 := e11 ▸ q_Fx.sI (q_Fx.rf S)
          refine q_aload_n 2 rfl rfl dX4_headFault_256 ?_
          refine q_getR (q_sh78 (w.fx fx12)) (by decide) (by decide) rfl lfX4_22 dX4_headFault_257 (r := p) (aN.fx fx12).1 ?_
          refine q_getRN (q_shP0 (w.fx fx12) hp) (by decide) (by decide) rfl lfX4_131 dX4_headFault_260 (r := (p + 28)) (q_wrP0_9 (w.fx fx12) hp) ?_
          refine q_iload 3 rfl dX4_headFault_263 ?_
          refine q_iload 0 rfl dX4_headFault_265 ?_
          obtain ⟨hg13, h⟩ := q_guard h
          refine q_iast (q_shP28 (w.fx fx12) hp) (q_inb_in hg13) dX4_headFault_267 ?_
          obtain ⟨S14, e15, h⟩ := q_bindS h
          refine q_st e15 ?_
          have fx16 : q_Fx S S14 := e15 ▸ q_Fx.sI (fx12)
          refine q_iconst (v := (-1 : Int32)) (by decide) dX4_headFault_268 ?_
          obtain rfl := Option.some.inj h
          exact q_iret rfl rfl dX4_headFault_269 hQ
        · rw [if_neg c] at h
          refine q_iload 4 rfl dX4_headFault_239 ?_
          refine q_iconst (v := (2 : Int32)) (by decide) dX4_headFault_241 ?_
          refine q_iadd dX4_headFault_242 ?_
          obtain rfl := Option.some.inj h
          exact q_iret rfl rfl dX4_headFault_243 hQ
    · rw [if_pos c] at h
      refine q_iload 3 rfl dX4_headFault_199 ?_
      refine q_iconst (v := (1 : Int32)) (by decide) dX4_headFault_201 ?_
      refine q_iadd dX4_headFault_202 ?_
      obtain rfl := Option.some.inj h
      exact q_iret rfl rfl dX4_headFault_203 hQ
  replace h := hv
  refine q_if_eq 183 (by decide) dX4_headFault_175 (fun c => ?_) (fun c => ?_)
  · have c := q_b_0.mp c; rw [q_if0 c] at h
    refine q_aload_n 0 rfl rfl dX4_headFault_183 ?_
    refine q_iload 2 rfl dX4_headFault_184 ?_
    refine q_iconst (v := (1 : Int32)) (by decide) dX4_headFault_186 ?_
    refine q_iadd dX4_headFault_187 ?_
    obtain ⟨r3, e4, h⟩ := q_bind h
    refine q_callV (ci := 4) (d := 6) (Mc := mX4_typeAt) (kc := 0) (nc := 0) [.int (y5 + (1 : Int32))] okX4_typeAt (q_sh78 w) (by decide) rfl lmX4_88 inX4_typeAt seX4_typeAt rfl (Nat.le_of_ble_eq_true rfl) (Nat.le_of_ble_eq_true rfl) (Nat.le_refl _) (Nat.le_refl _) dX4_headFault_188 (q_L.deep (by decide) (kX4_typeAt (Q := fun r S' => r = some (.int r3) ∧ S' = S) w hp (aN) e4 ⟨rfl, rfl⟩)) (q_kI ?_)
    obtain rfl := Option.some.inj h
    refine q_sub [0, 1, 2] rfl ?_
    exact K1
  · have c := q_b_n.mp c; rw [q_if1 c] at h
    refine q_bipush (v := (68 : Int32)) (by decide) dX4_headFault_178 ?_
    refine q_goto 191 (by decide) dX4_headFault_180 ?_
    obtain rfl := Option.some.inj h
    refine q_sub [0, 1, 2] rfl ?_
    exact K1
set_option maxRecDepth 20000 in
theorem sX4_headFault_102 {g : QG} {Q : Option Value → QS → Prop} {p : Nat} {y4 : Int32} {x : Int32 × QS} {z : (Int32 × QS) ⊕ (Int32 × QS)} (w : q_Wire x.2) (hp : q_pok p) (aN : q_aN x.2 p) (h : tX4_headFault_102 p y4 x = some z) (hQ : (Sum.elim (fun r0 : Int32 × QS => Q (some (.int r0.1)) r0.2) (fun y : Int32 × QS => q_L g mX4_headFault 7 0 0 Q 0 0 102 [(0, .ref 78), (4, .int y4), (5, .int y.1)] [] y.2) z)) : q_L g mX4_headFault 7 0 0 Q 0 0 102 [(0, .ref 78), (4, .int y4), (5, .int x.1)] [] x.2 := by
  unfold tX4_headFault_102 at h
  refine q_iload 2 rfl dX4_headFault_102 ?_
  refine q_aload_n 0 rfl rfl dX4_headFault_104 ?_
  refine q_getR (q_sh78 w) (by decide) (by decide) rfl lfX4_18 dX4_headFault_105 (r := 2) (q_wr78_0 w) ?_
  refine q_getIN (q_sh2 w) (by decide) (by decide) rfl lfX4_41 dX4_headFault_108 ?_
  refine q_icmp_ge 162 (by decide) dX4_headFault_111 (fun c => ?_) (fun c => ?_)
  · rw [if_pos c] at h
    refine q_sub [0, 1, 2] rfl ?_
    obtain ⟨r17, e18, h⟩ := q_bind h
    cases h
    exact kX4_headFault_162 w hp (aN) e18 hQ
  · rw [if_neg c] at h
    refine q_aload_n 0 rfl rfl dX4_headFault_114 ?_
    refine q_getR (q_sh78 w) (by decide) (by decide) rfl lfX4_18 dX4_headFault_115 (r := 2) (q_wr78_0 w) ?_
    refine q_iload 2 rfl dX4_headFault_118 ?_
    refine q_bipush (v := (41 : Int32)) (by decide) dX4_headFault_120 ?_
    obtain ⟨r19, e20, h⟩ := q_bind h
    refine q_callV (ci := 8) (d := 6) (Mc := mX8_isMark) (kc := 0) (nc := 0) [.int x.1, .int (41 : Int32)] okX8_isMark (q_sh2 w) (by decide) rfl lmX4_109 inX8_isMark seX8_isMark rfl (Nat.le_of_ble_eq_true rfl) (Nat.le_of_ble_eq_true rfl) (Nat.le_refl _) (Nat.le_refl _) dX4_headFault_122 (q_L.deep (by decide) (kX8_isMark (Q := fun r S' => r = some (.int (q_b r19)) ∧ S' = x.2) w e20 ⟨rfl, rfl⟩)) (q_kI ?_)
    refine q_if_ne 162 (by decide) dX4_headFault_125 (fun c => ?_) (fun c => ?_)
    · have c := q_b_n.mp c; rw [q_if1 c] at h
      refine q_sub [0, 1, 2] rfl ?_
      obtain ⟨r21, e22, h⟩ := q_bind h
      cases h
      exact kX4_headFault_162 w hp (aN) e22 hQ
    · have c := q_b_0.mp c; rw [q_if0 c] at h
      refine q_aload_n 0 rfl rfl dX4_headFault_128 ?_
      refine q_iload 2 rfl dX4_headFault_129 ?_
      obtain ⟨r23, e24, h⟩ := q_bind h
      refine q_callV (ci := 4) (d := 6) (Mc := mX4_typeAt) (kc := 0) (nc := 0) [.int x.1] okX4_typeAt (q_sh78 w) (by decide) rfl lmX4_88 inX4_typeAt seX4_typeAt rfl (Nat.le_of_ble_eq_true rfl) (Nat.le_of_ble_eq_true rfl) (Nat.le_refl _) (Nat.le_refl _) dX4_headFault_131 (q_L.deep (by decide) (kX4_typeAt (Q := fun r S' => r = some (.int r23) ∧ S' = x.2) w hp (aN) e24 ⟨rfl, rfl⟩)) (q_kI ?_)
      refine q_istore [(6, .int r23), (0, .ref 78), (4, .int y4), (5, .int x.1)] (by decide) rfl dX4_headFault_134 ?_
      refine q_iload 0 rfl dX4_headFault_136 ?_
      refine q_iconst (v := (-1 : Int32)) (by decide) dX4_headFault_138 ?_
      refine q_icmp_ne 145 (by decide) dX4_headFault_139 (fun c => ?_) (fun c => ?_)
      · rw [if_neg c] at h
        refine q_aload_n 1 rfl rfl dX4_headFault_145 ?_
        refine q_getR (q_sh78 w) (by decide) (by decide) rfl lfX4_22 dX4_headFault_146 (r := p) (aN).1 ?_
        refine q_iload 2 rfl dX4_headFault_149 ?_
        refine q_iload 0 rfl dX4_headFault_151 ?_
        obtain ⟨r25, e26, h⟩ := q_bind h
        refine q_callV (ci := 5) (d := 6) (Mc := mX5_addParameter) (kc := 0) (nc := 0) [.int y4, .int r23] okX5_addParameter (q_shP0 w hp) (by decide) rfl lmX4_113 inX5_addParameter seX5_addParameter rfl (Nat.le_of_ble_eq_true rfl) (Nat.le_of_ble_eq_true rfl) (Nat.le_refl _) (Nat.le_refl _) dX4_headFault_153 (q_L.deep (by decide) (kX5_addParameter (Q := fun r S' => r = none ∧ S' = r25) w hp e26 ⟨rfl, rfl⟩)) (q_kV ?_)
        have fx27 : q_Fx x.2 r25 := q_Fx.tr (q_Fx.rf x.2) (fxX5_addParameter e26)
        refine q_iinc (v := (x.1 + (1 : Int32))) 3 [(5, .int (x.1 + (1 : Int32))), (6, .int r23), (0, .ref 78), (4, .int y4)] (by decide) rfl (congrArg (fun t => x.1 + t) (by decide)) rfl dX4_headFault_156 ?_
        refine q_goto 102 (by decide) dX4_headFault_159 ?_
        refine q_sub [2, 3, 0] rfl ?_
        cases h
        exact hQ
      · rw [if_pos c] at h
        refine q_iload 3 rfl dX4_headFault_142 ?_
        cases h
        exact q_iret rfl rfl dX4_headFault_144 hQ
theorem lX4_headFault_102 {g : QG} {Q : Option Value → QS → Prop} {p : Nat} {y4 : Int32} {r : Int32 × QS} (hp : q_pok p) (hQ : Q (some (.int r.1)) r.2) : ∀ (c : Nat) (x : Int32 × QS), q_Wire x.2 → q_aN x.2 p → q_it (tX4_headFault_102 p y4) c x = some r → q_L g mX4_headFault 7 0 0 Q 0 0 102 [(0, .ref 78), (4, .int y4), (5, .int x.1)] [] x.2 := by
  intro c
  induction c with
  | zero => intro x w aN h; cases h
  | succ c ih =>
    intro x w aN h
    simp only [q_it] at h
    cases hz : tX4_headFault_102 p y4 x with
    | none => rw [hz] at h; cases h
    | some z =>
      rw [hz] at h
      refine sX4_headFault_102 w hp aN hz ?_
      rcases z with z | y
      · cases h; exact hQ
      · have fz := fxtX4_headFault_102 hz; exact ih y (w.fx fz) (aN.fx fz) h
theorem kX4_headFault_102 {S : QS} {g : QG} {Q : Option Value → QS → Prop} {p : Nat} {y4 : Int32} {y5 : Int32} {r : Int32 × QS} (w : q_Wire S) (hp : q_pok p) (aN : q_aN S p) (h : fX4_headFault_102 S p y4 y5 = some r) (hQ : Q (some (.int r.1)) r.2) : q_L g mX4_headFault 7 0 0 Q 0 0 102 [(0, .ref 78), (4, .int y4), (5, .int y5)] [] S := by
  obtain ⟨c, hc⟩ := q_run_it h
  exact lX4_headFault_102 hp hQ c (y5, S) w aN hc
set_option maxRecDepth 20000 in
theorem kX4_headFault_57 {S : QS} {g : QG} {Q : Option Value → QS → Prop} {p : Nat} {y1 : Int32} {y2 : Int32} {y3 : Int32} {r : Int32 × QS} (w : q_Wire S) (hp : q_pok p) (aN : q_aN S p) (h : fX4_headFault_57 S p y1 y2 y3 = some r) (hQ : Q (some (.int r.1)) r.2) : q_L g mX4_headFault 7 0 0 Q 0 0 57 [(0, .ref 78), (1, .int y1), (2, .int y2), (3, .int y3)] [] S := by
  unfold fX4_headFault_57 at h
  refine q_aload_n 0 rfl rfl dX4_headFault_57 ?_
  refine q_getR (q_sh78 w) (by decide) (by decide) rfl lfX4_22 dX4_headFault_58 (r := p) (aN).1 ?_
  refine q_getIN (q_shP0 w hp) (by decide) (by decide) rfl lfX4_98 dX4_headFault_61 ?_
  refine q_istore [(4, .int (S.2.1 p 2)), (0, .ref 78), (1, .int y1), (2, .int y2), (3, .int y3)] (by decide) rfl dX4_headFault_64 ?_
  refine q_aload_n 1 rfl rfl dX4_headFault_66 ?_
  refine q_getR (q_sh78 w) (by decide) (by decide) rfl lfX4_22 dX4_headFault_67 (r := p) (aN).1 ?_
  refine q_iload_n 3 rfl rfl dX4_headFault_70 ?_
  refine q_iload_n 2 rfl rfl dX4_headFault_71 ?_
  refine q_iconst (v := (1 : Int32)) (by decide) dX4_headFault_72 ?_
  refine q_iadd dX4_headFault_73 ?_
  refine q_aload_n 1 rfl rfl dX4_headFault_74 ?_
  refine q_getR (q_sh78 w) (by decide) (by decide) rfl lfX4_18 dX4_headFault_75 (r := 2) (q_wr78_0 w) ?_
  refine q_getRN (q_sh2 w) (by decide) (by decide) rfl lfX4_47 dX4_headFault_78 (r := 6) (q_wr2_4 w) ?_
  refine q_iload_n 2 rfl rfl dX4_headFault_81 ?_
  obtain ⟨hg28, h⟩ := q_guard h
  refine q_bald (q_sh6 w) (q_inb_in hg28) dX4_headFault_82 ?_
  refine q_bipush (v := (51 : Int32)) (by decide) dX4_headFault_83 ?_
  obtain ⟨v29, hv, h⟩ := q_bind h
  have K2 : q_L g mX4_headFault 7 0 0 Q 0 0 93 [(0, .ref 78), (1, .int y1), (3, .int y3), (4, .int (S.2.1 p 2))] [.int (q_b v29), .int (y1 + (1 : Int32)), .int y2, .ref p] S := by
    refine q_iload_n 2 rfl rfl dX4_headFault_93 ?_
    obtain ⟨r30, e31, h⟩ := q_bind h
    refine q_callV (ci := 5) (d := 6) (Mc := mX5_addBody) (kc := 0) (nc := 0) [.int y2, .int (y1 + (1 : Int32)), .int (q_b v29), .int y3] okX5_addBody (q_shP0 w hp) (by decide) rfl lmX4_105 inX5_addBody seX5_addBody rfl (Nat.le_of_ble_eq_true rfl) (Nat.le_of_ble_eq_true rfl) (Nat.le_refl _) (Nat.le_refl _) dX4_headFault_94 (q_L.deep (by decide) (kX5_addBody (Q := fun r S' => r = none ∧ S' = r30) w hp e31 ⟨rfl, rfl⟩)) (q_kV ?_)
    have fx32 : q_Fx S r30 := q_Fx.tr (q_Fx.rf S) (fxX5_addBody e31)
    refine q_iload_n 1 rfl rfl dX4_headFault_97 ?_
    refine q_iconst (v := (3 : Int32)) (by decide) dX4_headFault_98 ?_
    refine q_iadd dX4_headFault_99 ?_
    refine q_istore [(5, .int (y1 + (3 : Int32))), (0, .ref 78), (1, .int y1), (3, .int y3), (4, .int (S.2.1 p 2))] (by decide) rfl dX4_headFault_100 ?_
    refine q_sub [1, 4, 0] rfl ?_
    exact kX4_headFault_102 (w.fx fx32) hp (aN.fx fx32) h hQ
  replace h := hv
  refine q_icmp_ne 92 (by decide) dX4_headFault_85 (fun c => ?_) (fun c => ?_)
  · rw [if_neg c] at h
    refine q_iconst (v := (0 : Int32)) (by decide) dX4_headFault_92 ?_
    obtain rfl := Option.some.inj h
    refine q_sub [1, 2, 4, 0] rfl ?_
    exact K2
  · rw [if_pos c] at h
    refine q_iconst (v := (1 : Int32)) (by decide) dX4_headFault_88 ?_
    refine q_goto 93 (by decide) dX4_headFault_89 ?_
    obtain rfl := Option.some.inj h
    refine q_sub [1, 2, 4, 0] rfl ?_
    exact K2
set_option maxRecDepth 20000 in
theorem kX4_headFault {S : QS} {g : QG} {Q : Option Value → QS → Prop} {p : Nat} {x1 : Int32} {x2 : Int32} {r : Int32 × QS} (w : q_Wire S) (hp : q_pok p) (aN : q_aN S p) (h : fX4_headFault S p x1 x2 = some r) (hQ : Q (some (.int r.1)) r.2) : q_M g mX4_headFault 7 0 0 [.ref 78, .int x1, .int x2] S Q := by
  unfold fX4_headFault at h
  show q_L g mX4_headFault 7 0 0 Q 0 0 0 [(0, .ref 78), (1, .int x1), (2, .int x2)] [] S
  refine q_aload_n 0 rfl rfl dX4_headFault_0 ?_
  refine q_iload_n 2 rfl rfl dX4_headFault_1 ?_
  refine q_aload_n 0 rfl rfl dX4_headFault_2 ?_
  refine q_getR (q_sh78 w) (by decide) (by decide) rfl lfX4_18 dX4_headFault_3 (r := 2) (q_wr78_0 w) ?_
  refine q_iload_n 1 rfl rfl dX4_headFault_6 ?_
  refine q_iconst (v := (1 : Int32)) (by decide) dX4_headFault_7 ?_
  refine q_iadd dX4_headFault_8 ?_
  obtain ⟨r33, e34, h⟩ := q_bind h
  refine q_callV (ci := 8) (d := 6) (Mc := mX8_start) (kc := 0) (nc := 0) [.int (x1 + (1 : Int32))] okX8_start (q_sh2 w) (by decide) rfl lmX4_75 inX8_start seX8_start rfl (Nat.le_of_ble_eq_true rfl) (Nat.le_of_ble_eq_true rfl) (Nat.le_refl _) (Nat.le_refl _) dX4_headFault_9 (q_L.deep (by decide) (kX8_start (Q := fun r S' => r = some (.int r33) ∧ S' = S) w e34 ⟨rfl, rfl⟩)) (q_kI ?_)
  refine q_aload_n 0 rfl rfl dX4_headFault_12 ?_
  refine q_getR (q_sh78 w) (by decide) (by decide) rfl lfX4_18 dX4_headFault_13 (r := 2) (q_wr78_0 w) ?_
  refine q_iload_n 1 rfl rfl dX4_headFault_16 ?_
  refine q_iconst (v := (1 : Int32)) (by decide) dX4_headFault_17 ?_
  refine q_iadd dX4_headFault_18 ?_
  obtain ⟨r35, e36, h⟩ := q_bind h
  refine q_callV (ci := 8) (d := 6) (Mc := mX8_stop) (kc := 0) (nc := 0) [.int (x1 + (1 : Int32))] okX8_stop (q_sh2 w) (by decide) rfl lmX4_78 inX8_stop seX8_stop rfl (Nat.le_of_ble_eq_true rfl) (Nat.le_of_ble_eq_true rfl) (Nat.le_refl _) (Nat.le_refl _) dX4_headFault_19 (q_L.deep (by decide) (kX8_stop (Q := fun r S' => r = some (.int r35) ∧ S' = S) w e36 ⟨rfl, rfl⟩)) (q_kI ?_)
  obtain ⟨r37, e38, h⟩ := q_bind h
  refine q_callV (ci := 4) (d := 6) (Mc := mX4_bodyNamed) (kc := 0) (nc := 0) [.int x2, .int r33, .int r35] okX4_bodyNamed (q_sh78 w) (by decide) rfl lmX4_95 inX4_bodyNamed seX4_bodyNamed rfl (Nat.le_of_ble_eq_true rfl) (Nat.le_of_ble_eq_true rfl) (Nat.le_refl _) (Nat.le_refl _) dX4_headFault_22 (q_L.deep (by decide) (kX4_bodyNamed (Q := fun r S' => r = some (.int r37) ∧ S' = S) w hp (aN) e38 ⟨rfl, rfl⟩)) (q_kI ?_)
  refine q_istore_n [(3, .int r37), (0, .ref 78), (1, .int x1), (2, .int x2)] rfl (by decide) rfl dX4_headFault_25 ?_
  refine q_aload_n 1 rfl rfl dX4_headFault_26 ?_
  refine q_getR (q_sh78 w) (by decide) (by decide) rfl lfX4_22 dX4_headFault_27 (r := p) (aN).1 ?_
  refine q_getIN (q_shP0 w hp) (by decide) (by decide) rfl lfX4_98 dX4_headFault_30 ?_
  refine q_bipush (v := (48 : Int32)) (by decide) dX4_headFault_33 ?_
  refine q_icmp_eq 53 (by decide) dX4_headFault_35 (fun c => ?_) (fun c => ?_)
  · rw [if_pos c] at h
    refine q_iload_n 2 rfl rfl dX4_headFault_53 ?_
    refine q_iconst (v := (1 : Int32)) (by decide) dX4_headFault_54 ?_
    refine q_iadd dX4_headFault_55 ?_
    obtain rfl := Option.some.inj h
    exact q_iret rfl rfl dX4_headFault_56 hQ
  · rw [if_neg c] at h
    refine q_iload_n 0 rfl rfl dX4_headFault_38 ?_
    refine q_iconst (v := (-1 : Int32)) (by decide) dX4_headFault_39 ?_
    refine q_icmp_eq 57 (by decide) dX4_headFault_40 (fun c => ?_) (fun c => ?_)
    · rw [if_pos c] at h
      refine q_sub [1, 2, 3, 0] rfl ?_
      exact kX4_headFault_57 w hp (aN) h hQ
    · rw [if_neg c] at h
      refine q_aload_n 1 rfl rfl dX4_headFault_43 ?_
      refine q_iload_n 2 rfl rfl dX4_headFault_44 ?_
      refine q_iload_n 3 rfl rfl dX4_headFault_45 ?_
      refine q_iload_n 0 rfl rfl dX4_headFault_46 ?_
      obtain ⟨r39, e40, h⟩ := q_bind h
      refine q_callV (ci := 4) (d := 6) (Mc := mX4_mayReplace) (kc := 0) (nc := 0) [.int x1, .int x2, .int r37] okX4_mayReplace (q_sh78 w) (by decide) rfl lmX4_101 inX4_mayReplace seX4_mayReplace rfl (Nat.le_of_ble_eq_true rfl) (Nat.le_of_ble_eq_true rfl) (Nat.le_refl _) (Nat.le_refl _) dX4_headFault_47 (q_L.deep (by decide) (kX4_mayReplace (Q := fun r S' => r = some (.int (q_b r39)) ∧ S' = S) w hp (aN) e40 ⟨rfl, rfl⟩)) (q_kI ?_)
      refine q_if_ne 57 (by decide) dX4_headFault_50 (fun c => ?_) (fun c => ?_)
      · have c := q_b_n.mp c; rw [q_if1 c] at h
        refine q_sub [1, 2, 3, 0] rfl ?_
        exact kX4_headFault_57 w hp (aN) h hQ
      · have c := q_b_0.mp c; rw [q_if0 c] at h
        refine q_iload_n 2 rfl rfl dX4_headFault_53 ?_
        refine q_iconst (v := (1 : Int32)) (by decide) dX4_headFault_54 ?_
        refine q_iadd dX4_headFault_55 ?_
        obtain rfl := Option.some.inj h
        exact q_iret rfl rfl dX4_headFault_56 hQ
set_option maxRecDepth 20000 in
theorem sX4_memberFault_5 {g : QG} {Q : Option Value → QS → Prop} {p : Nat}  {x : Int32 × Int32 × QS} {z : (Int32 × QS) ⊕ (Int32 × Int32 × QS)} (w : q_Wire x.2.2) (hp : q_pok p) (aN : q_aN x.2.2 p) (h : tX4_memberFault_5 p x = some z) (hQ : (Sum.elim (fun r0 : Int32 × QS => Q (some (.int r0.1)) r0.2) (fun y : Int32 × Int32 × QS => q_L g mX4_memberFault 8 0 0 Q 0 0 5 [(0, .ref 78), (1, .int y.1), (2, .int y.2.1)] [] y.2.2) z)) : q_L g mX4_memberFault 8 0 0 Q 0 0 5 [(0, .ref 78), (1, .int x.1), (2, .int x.2.1)] [] x.2.2 := by
  unfold tX4_memberFault_5 at h
  refine q_iload_n 2 rfl rfl dX4_memberFault_5 ?_
  refine q_aload_n 0 rfl rfl dX4_memberFault_6 ?_
  refine q_getR (q_sh78 w) (by decide) (by decide) rfl lfX4_18 dX4_memberFault_7 (r := 2) (q_wr78_0 w) ?_
  refine q_getIN (q_sh2 w) (by decide) (by decide) rfl lfX4_41 dX4_memberFault_10 ?_
  refine q_icmp_ge 103 (by decide) dX4_memberFault_13 (fun c => ?_) (fun c => ?_)
  · rw [if_pos c] at h
    refine q_iconst (v := (-1 : Int32)) (by decide) dX4_memberFault_103 ?_
    cases h
    exact q_iret rfl rfl dX4_memberFault_104 hQ
  · rw [if_neg c] at h
    refine q_iconst (v := (-1 : Int32)) (by decide) dX4_memberFault_16 ?_
    refine q_istore_n [(3, .int (-1 : Int32)), (0, .ref 78), (1, .int x.1), (2, .int x.2.1)] rfl (by decide) rfl dX4_memberFault_17 ?_
    refine q_aload_n 1 rfl rfl dX4_memberFault_18 ?_
    refine q_getR (q_sh78 w) (by decide) (by decide) rfl lfX4_18 dX4_memberFault_19 (r := 2) (q_wr78_0 w) ?_
    refine q_getRN (q_sh2 w) (by decide) (by decide) rfl lfX4_47 dX4_memberFault_22 (r := 6) (q_wr2_4 w) ?_
    refine q_iload_n 3 rfl rfl dX4_memberFault_25 ?_
    obtain ⟨hg1, h⟩ := q_guard h
    refine q_bald (q_sh6 w) (q_inb_in hg1) dX4_memberFault_26 ?_
    obtain ⟨v16, hv, h⟩ := q_bind h
    have fx17 : q_Fx x.2.2 v16.2.2 := by
      replace h := hv
      by_cases c2 : (x.2.2.2.1 6 x.2.1.toNatClampNeg) = (48 : Int32)
      · rw [if_pos c2] at h
        obtain ⟨r3, e4, h⟩ := q_bind h
        have fx5 : q_Fx x.2.2 r3 := q_Fx.tr (q_Fx.rf x.2.2) (fxX5_inherit e4)
        obtain rfl := Option.some.inj h
        exact fx5
      rw [if_neg c2] at h
      by_cases c6 : (x.2.2.2.1 6 x.2.1.toNatClampNeg) = (49 : Int32)
      · rw [if_pos c6] at h
        obtain ⟨r7, e8, h⟩ := q_bind h
        have fx9 : q_Fx x.2.2 r7.2 := q_Fx.tr (q_Fx.rf x.2.2) (fxX4_fieldFault e8)
        obtain rfl := Option.some.inj h
        exact fx9
      rw [if_neg c6] at h
      by_cases c10 : (x.2.2.2.1 6 x.2.1.toNatClampNeg) = (50 : Int32) ∨ (x.2.2.2.1 6 x.2.1.toNatClampNeg) = (51 : Int32)
      · rw [if_pos c10] at h
        obtain ⟨r11, e12, h⟩ := q_bind h
        have fx13 : q_Fx x.2.2 r11.2 := q_Fx.tr (q_Fx.rf x.2.2) (fxX4_headFault e12)
        obtain rfl := Option.some.inj h
        exact fx13
      rw [if_neg c10] at h
      obtain rfl := Option.some.inj h
      exact q_Fx.rf _
    have K1 : q_L g mX4_memberFault 8 0 0 Q 0 0 90 [(0, .ref 78), (1, .int v16.1), (2, .int x.2.1), (3, .int v16.2.1)] [] v16.2.2 := by
      refine q_iload_n 3 rfl rfl dX4_memberFault_90 ?_
      refine q_iconst (v := (-1 : Int32)) (by decide) dX4_memberFault_91 ?_
      refine q_icmp_eq 97 (by decide) dX4_memberFault_92 (fun c => ?_) (fun c => ?_)
      · rw [if_pos c] at h
        refine q_iinc (v := (x.2.1 + (1 : Int32))) 2 [(2, .int (x.2.1 + (1 : Int32))), (0, .ref 78), (1, .int v16.1), (3, .int v16.2.1)] (by decide) rfl (congrArg (fun t => x.2.1 + t) (by decide)) rfl dX4_memberFault_97 ?_
        refine q_goto 5 (by decide) dX4_memberFault_100 ?_
        refine q_sub [1, 2, 0] rfl ?_
        cases h
        exact hQ
      · rw [if_neg c] at h
        refine q_iload_n 3 rfl rfl dX4_memberFault_95 ?_
        cases h
        exact q_iret rfl rfl dX4_memberFault_96 hQ
    replace h := hv
    by_cases c2 : (x.2.2.2.1 6 x.2.1.toNatClampNeg) = (48 : Int32)
    · rw [if_pos c2] at h
      refine q_tabIn (M := mX4_memberFault) (pc := 27) (x := (x.2.2.2.1 6 x.2.1.toNatClampNeg)) 56 (by rw [c2]; decide) (by rw [c2]; decide) (by rw [c2]; rfl) (by decide) dX4_memberFault_27 ?_
      refine q_iinc (v := (x.1 + (1 : Int32))) 2 [(1, .int (x.1 + (1 : Int32))), (3, .int (-1 : Int32)), (0, .ref 78), (2, .int x.2.1)] (by decide) rfl (congrArg (fun t => x.1 + t) (by decide)) rfl dX4_memberFault_56 ?_
      refine q_aload_n 2 rfl rfl dX4_memberFault_59 ?_
      refine q_getR (q_sh78 w) (by decide) (by decide) rfl lfX4_22 dX4_memberFault_60 (r := p) (aN).1 ?_
      refine q_iload_n 0 rfl rfl dX4_memberFault_63 ?_
      obtain ⟨r3, e4, h⟩ := q_bind h
      refine q_callV (ci := 5) (d := 7) (Mc := mX5_inherit) (kc := 0) (nc := 0) [.int (x.1 + (1 : Int32))] okX5_inherit (q_shP0 w hp) (by decide) rfl lmX4_64 inX5_inherit seX5_inherit rfl (Nat.le_of_ble_eq_true rfl) (Nat.le_of_ble_eq_true rfl) (Nat.le_refl _) (Nat.le_refl _) dX4_memberFault_64 (q_L.deep (by decide) (kX5_inherit (Q := fun r S' => r = none ∧ S' = r3) w hp e4 ⟨rfl, rfl⟩)) (q_kV ?_)
      have fx5 : q_Fx x.2.2 r3 := q_Fx.tr (q_Fx.rf x.2.2) (fxX5_inherit e4)
      refine q_goto 90 (by decide) dX4_memberFault_67 ?_
      obtain rfl := Option.some.inj h
      refine q_sub [2, 0, 3, 1] rfl ?_
      exact K1
    rw [if_neg c2] at h
    by_cases c6 : (x.2.2.2.1 6 x.2.1.toNatClampNeg) = (49 : Int32)
    · rw [if_pos c6] at h
      refine q_tabIn (M := mX4_memberFault) (pc := 27) (x := (x.2.2.2.1 6 x.2.1.toNatClampNeg)) 70 (by rw [c6]; decide) (by rw [c6]; decide) (by rw [c6]; rfl) (by decide) dX4_memberFault_27 ?_
      refine q_aload_n 1 rfl rfl dX4_memberFault_70 ?_
      refine q_iload_n 3 rfl rfl dX4_memberFault_71 ?_
      refine q_iload_n 2 rfl rfl dX4_memberFault_72 ?_
      obtain ⟨r7, e8, h⟩ := q_bind h
      refine q_callV (ci := 4) (d := 7) (Mc := mX4_fieldFault) (kc := 0) (nc := 0) [.int x.2.1, .int x.1] okX4_fieldFault (q_sh78 w) (by decide) rfl lmX4_68 inX4_fieldFault seX4_fieldFault rfl (Nat.le_of_ble_eq_true rfl) (Nat.le_of_ble_eq_true rfl) (Nat.le_refl _) (Nat.le_refl _) dX4_memberFault_73 (q_L.deep (by decide) (kX4_fieldFault (Q := fun r S' => r = some (.int r7.1) ∧ S' = r7.2) w hp (aN) e8 ⟨rfl, rfl⟩)) (q_kI ?_)
      have fx9 : q_Fx x.2.2 r7.2 := q_Fx.tr (q_Fx.rf x.2.2) (fxX4_fieldFault e8)
      refine q_istore_n [(3, .int r7.1), (0, .ref 78), (1, .int x.1), (2, .int x.2.1)] rfl (by decide) rfl dX4_memberFault_76 ?_
      refine q_goto 90 (by decide) dX4_memberFault_77 ?_
      obtain rfl := Option.some.inj h
      refine q_sub [1, 2, 3, 0] rfl ?_
      exact K1
    rw [if_neg c6] at h
    by_cases c10 : (x.2.2.2.1 6 x.2.1.toNatClampNeg) = (50 : Int32) ∨ (x.2.2.2.1 6 x.2.1.toNatClampNeg) = (51 : Int32)
    · rw [if_pos c10] at h
      have K : ∀ (hK : True), q_L g mX4_memberFault 8 0 0 Q 0 0 80 [(3, .int (-1 : Int32)), (0, .ref 78), (1, .int x.1), (2, .int x.2.1)] [] x.2.2 := by
        intro _
        refine q_aload_n 1 rfl rfl dX4_memberFault_80 ?_
        refine q_iload_n 3 rfl rfl dX4_memberFault_81 ?_
        refine q_iload_n 2 rfl rfl dX4_memberFault_82 ?_
        obtain ⟨r11, e12, h⟩ := q_bind h
        refine q_callV (ci := 4) (d := 7) (Mc := mX4_headFault) (kc := 0) (nc := 0) [.int x.2.1, .int x.1] okX4_headFault (q_sh78 w) (by decide) rfl lmX4_72 inX4_headFault seX4_headFault rfl (Nat.le_of_ble_eq_true rfl) (Nat.le_of_ble_eq_true rfl) (Nat.le_refl _) (Nat.le_refl _) dX4_memberFault_83 (q_L.deep (by decide) (kX4_headFault (Q := fun r S' => r = some (.int r11.1) ∧ S' = r11.2) w hp (aN) e12 ⟨rfl, rfl⟩)) (q_kI ?_)
        have fx13 : q_Fx x.2.2 r11.2 := q_Fx.tr (q_Fx.rf x.2.2) (fxX4_headFault e12)
        refine q_istore_n [(3, .int r11.1), (0, .ref 78), (1, .int x.1), (2, .int x.2.1)] rfl (by decide) rfl dX4_memberFault_86 ?_
        refine q_goto 90 (by decide) dX4_memberFault_87 ?_
        obtain rfl := Option.some.inj h
        refine q_sub [1, 2, 3, 0] rfl ?_
        exact K1
      rcases c10 with c10 | c10
      · exact q_tabIn (M := mX4_memberFault) (pc := 27) (x := (x.2.2.2.1 6 x.2.1.toNatClampNeg)) 80 (by rw [c10]; decide) (by rw [c10]; decide) (by rw [c10]; rfl) (by decide) dX4_memberFault_27 (K trivial)
      · exact q_tabIn (M := mX4_memberFault) (pc := 27) (x := (x.2.2.2.1 6 x.2.1.toNatClampNeg)) 80 (by rw [c10]; decide) (by rw [c10]; decide) (by rw [c10]; rfl) (by decide) dX4_memberFault_27 (K trivial)
    rw [if_neg c10] at h
    have n14 : ¬ (x.2.2.2.1 6 x.2.1.toNatClampNeg) = (50 : Int32) := (fun q => c10 (Or.inl q))
    have n15 : ¬ (x.2.2.2.1 6 x.2.1.toNatClampNeg) = (51 : Int32) := (fun q => c10 (Or.inr (q)))
    refine q_tabOut (M := mX4_memberFault) (pc := 27) (x := (x.2.2.2.1 6 x.2.1.toNatClampNeg)) 90 (by have := lv_neT (a := 48) c2 (by decide); have := lv_neT (a := 49) c6 (by decide); have := lv_neT (a := 50) n14 (by decide); have := lv_neT (a := 51) n15 (by decide); omega) (by decide) dX4_memberFault_27 ?_
    obtain rfl := Option.some.inj h
    refine q_sub [1, 2, 3, 0] rfl ?_
    exact K1
theorem lX4_memberFault_5 {g : QG} {Q : Option Value → QS → Prop} {p : Nat}  {r : Int32 × QS} (hp : q_pok p) (hQ : Q (some (.int r.1)) r.2) : ∀ (c : Nat) (x : Int32 × Int32 × QS), q_Wire x.2.2 → q_aN x.2.2 p → q_it (tX4_memberFault_5 p) c x = some r → q_L g mX4_memberFault 8 0 0 Q 0 0 5 [(0, .ref 78), (1, .int x.1), (2, .int x.2.1)] [] x.2.2 := by
  intro c
  induction c with
  | zero => intro x w aN h; cases h
  | succ c ih =>
    intro x w aN h
    simp only [q_it] at h
    cases hz : tX4_memberFault_5 p x with
    | none => rw [hz] at h; cases h
    | some z =>
      rw [hz] at h
      refine sX4_memberFault_5 w hp aN hz ?_
      rcases z with z | y
      · cases h; exact hQ
      · have fz := fxtX4_memberFault_5 hz; exact ih y (w.fx fz) (aN.fx fz) h
theorem kX4_memberFault_5 {S : QS} {g : QG} {Q : Option Value → QS → Prop} {p : Nat} {y1 : Int32} {y2 : Int32} {r : Int32 × QS} (w : q_Wire S) (hp : q_pok p) (aN : q_aN S p) (h : fX4_memberFault_5 S p y1 y2 = some r) (hQ : Q (some (.int r.1)) r.2) : q_L g mX4_memberFault 8 0 0 Q 0 0 5 [(0, .ref 78), (1, .int y1), (2, .int y2)] [] S := by
  obtain ⟨c, hc⟩ := q_run_it h
  exact lX4_memberFault_5 hp hQ c (y1, y2, S) w aN hc
set_option maxRecDepth 20000 in
theorem kX4_memberFault {S : QS} {g : QG} {Q : Option Value → QS → Prop} {p : Nat}  {r : Int32 × QS} (w : q_Wire S) (hp : q_pok p) (aN : q_aN S p) (h : fX4_memberFault S p = some r) (hQ : Q (some (.int r.1)) r.2) : q_M g mX4_memberFault 8 0 0 [.ref 78] S Q := by
  unfold fX4_memberFault at h
  show q_L g mX4_memberFault 8 0 0 Q 0 0 0 [(0, .ref 78)] [] S
  refine q_bipush (v := (7 : Int32)) (by decide) dX4_memberFault_0 ?_
  refine q_istore_n [(1, .int (7 : Int32)), (0, .ref 78)] rfl (by decide) rfl dX4_memberFault_2 ?_
  refine q_iconst (v := (0 : Int32)) (by decide) dX4_memberFault_3 ?_
  refine q_istore_n [(2, .int (0 : Int32)), (1, .int (7 : Int32)), (0, .ref 78)] rfl (by decide) rfl dX4_memberFault_4 ?_
  refine q_sub [2, 1, 0] rfl ?_
  exact kX4_memberFault_5 w hp (aN) h hQ
