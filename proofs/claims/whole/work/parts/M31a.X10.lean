set_option maxRecDepth 20000 in
theorem kX10_feed {S : QS} {g : QG} {Q : Option Value → QS → Prop}  {x1 : Int32} {x2 : Int32} {x3 : Int32} {x4 : Int32} {x5 : Int32} {r : Int32 × QS} (w : q_Wire S) (h : fX10_feed S x1 x2 x3 x4 x5 = some r) (hQ : Q (some (.int r.1)) r.2) : q_M g mX10_feed 0 0 0 [.ref 0, .int x1, .int x2, .int x3, .int x4, .int x5] S Q := by
  unfold fX10_feed at h
  show q_L g mX10_feed 0 0 0 Q 0 0 0 [(0, .ref 0), (1, .int x1), (2, .int x2), (3, .int x3), (4, .int x4), (5, .int x5)] [] S
  refine q_aload_n 0 rfl rfl dX10_feed_0 ?_
  refine q_getI (q_sh0 w) (by decide) (by decide) rfl lfX10_75 dX10_feed_1 ?_
  refine q_sipush (v := (15980 : Int32)) (by decide) dX10_feed_4 ?_
  refine q_icmp_gt 19 (by decide) dX10_feed_7 (fun c => ?_) (fun c => ?_)
  · rw [if_pos c] at h
    refine q_iconst (v := (-1 : Int32)) (by decide) dX10_feed_19 ?_
    obtain rfl := Option.some.inj h
    exact q_iret rfl rfl dX10_feed_20 hQ
  · rw [if_neg c] at h
    refine q_aload_n 0 rfl rfl dX10_feed_10 ?_
    refine q_getI (q_sh0 w) (by decide) (by decide) rfl lfX10_78 dX10_feed_11 ?_
    refine q_ldc lkX10_81 dX10_feed_14 ?_
    refine q_icmp_le 21 (by decide) dX10_feed_16 (fun c => ?_) (fun c => ?_)
    · rw [if_pos c] at h
      refine q_aload_n 0 rfl rfl dX10_feed_21 ?_
      refine q_getI (q_sh0 w) (by decide) (by decide) rfl lfX10_75 dX10_feed_22 ?_
      refine q_iconst (v := (4 : Int32)) (by decide) dX10_feed_25 ?_
      refine q_idiv (by decide) dX10_feed_26 ?_
      refine q_istore [(6, .int ((S.2.1 0 1) / (4 : Int32))), (0, .ref 0), (1, .int x1), (2, .int x2), (3, .int x3), (4, .int x4), (5, .int x5)] (by decide) rfl dX10_feed_27 ?_
      refine q_aload_n 1 rfl rfl dX10_feed_29 ?_
      refine q_getR (q_sh0 w) (by decide) (by decide) rfl lfX10_9 dX10_feed_30 (r := 1) (q_wr0_0 w) ?_
      refine q_iload 0 rfl dX10_feed_33 ?_
      refine q_iload_n 2 rfl rfl dX10_feed_35 ?_
      obtain ⟨hg1, h⟩ := q_guard h
      refine q_iast (q_sh1 w) (q_inb_in hg1) dX10_feed_36 ?_
      obtain ⟨S2, e3, h⟩ := q_bindS h
      refine q_st e3 ?_
      have fx4 : q_Fx S S2 := e3 ▸ q_Fx.sI (q_Fx.rf S)
      refine q_aload_n 1 rfl rfl dX10_feed_37 ?_
      refine q_getR (q_sh0 (w.fx fx4)) (by decide) (by decide) rfl lfX10_9 dX10_feed_38 (r := 1) (q_wr0_0 (w.fx fx4)) ?_
      refine q_iload 0 rfl dX10_feed_41 ?_
      refine q_iconst (v := (1 : Int32)) (by decide) dX10_feed_43 ?_
      refine q_iadd dX10_feed_44 ?_
      refine q_iload_n 3 rfl rfl dX10_feed_45 ?_
      obtain ⟨hg5, h⟩ := q_guard h
      refine q_iast (q_sh1 (w.fx fx4)) (q_inb_in hg5) dX10_feed_46 ?_
      obtain ⟨S6, e7, h⟩ := q_bindS h
      refine q_st e7 ?_
      have fx8 : q_Fx S S6 := e7 ▸ q_Fx.sI (fx4)
      refine q_aload_n 1 rfl rfl dX10_feed_47 ?_
      refine q_getR (q_sh0 (w.fx fx8)) (by decide) (by decide) rfl lfX10_9 dX10_feed_48 (r := 1) (q_wr0_0 (w.fx fx8)) ?_
      refine q_iload 0 rfl dX10_feed_51 ?_
      refine q_iconst (v := (2 : Int32)) (by decide) dX10_feed_53 ?_
      refine q_iadd dX10_feed_54 ?_
      refine q_iload_n 4 rfl rfl dX10_feed_55 ?_
      obtain ⟨hg9, h⟩ := q_guard h
      refine q_iast (q_sh1 (w.fx fx8)) (q_inb_in hg9) dX10_feed_56 ?_
      obtain ⟨S10, e11, h⟩ := q_bindS h
      refine q_st e11 ?_
      have fx12 : q_Fx S S10 := e11 ▸ q_Fx.sI (fx8)
      refine q_aload_n 1 rfl rfl dX10_feed_57 ?_
      refine q_getR (q_sh0 (w.fx fx12)) (by decide) (by decide) rfl lfX10_9 dX10_feed_58 (r := 1) (q_wr0_0 (w.fx fx12)) ?_
      refine q_iload 0 rfl dX10_feed_61 ?_
      refine q_iconst (v := (3 : Int32)) (by decide) dX10_feed_63 ?_
      refine q_iadd dX10_feed_64 ?_
      refine q_iload 5 rfl dX10_feed_65 ?_
      obtain ⟨hg13, h⟩ := q_guard h
      refine q_iast (q_sh1 (w.fx fx12)) (q_inb_in hg13) dX10_feed_67 ?_
      obtain ⟨S14, e15, h⟩ := q_bindS h
      refine q_st e15 ?_
      have fx16 : q_Fx S S14 := e15 ▸ q_Fx.sI (fx12)
      refine q_aload_n 1 rfl rfl dX10_feed_68 ?_
      refine q_getR (q_sh0 (w.fx fx16)) (by decide) (by decide) rfl lfX10_9 dX10_feed_69 (r := 1) (q_wr0_0 (w.fx fx16)) ?_
      refine q_iload 0 rfl dX10_feed_72 ?_
      refine q_iconst (v := (4 : Int32)) (by decide) dX10_feed_74 ?_
      refine q_iadd dX10_feed_75 ?_
      refine q_iload 6 rfl dX10_feed_76 ?_
      obtain ⟨hg17, h⟩ := q_guard h
      refine q_iast (q_sh1 (w.fx fx16)) (q_inb_in hg17) dX10_feed_78 ?_
      obtain ⟨S18, e19, h⟩ := q_bindS h
      refine q_st e19 ?_
      have fx20 : q_Fx S S18 := e19 ▸ q_Fx.sI (fx16)
      refine q_aload_n 1 rfl rfl dX10_feed_79 ?_
      refine q_dup rfl dX10_feed_80 ?_
      refine q_getI (q_sh0 (w.fx fx20)) (by decide) (by decide) rfl lfX10_75 dX10_feed_81 ?_
      refine q_bipush (v := (20 : Int32)) (by decide) dX10_feed_84 ?_
      refine q_iadd dX10_feed_86 ?_
      refine q_putI (q_sh0 (w.fx fx20)) (by decide) (by decide) rfl rfl ⟨rfl, rfl⟩ lfX10_75 dX10_feed_87 ?_
      obtain ⟨S21, e22, h⟩ := q_bindS h
      refine q_st e22 ?_
      have fx23 : q_Fx S S21 := e22 ▸ q_Fx.sI (fx20)
      refine q_aload_n 1 rfl rfl dX10_feed_90 ?_
      refine q_dup rfl dX10_feed_91 ?_
      refine q_getI (q_sh0 (w.fx fx23)) (by decide) (by decide) rfl lfX10_78 dX10_feed_92 ?_
      refine q_bipush (v := (20 : Int32)) (by decide) dX10_feed_95 ?_
      refine q_iadd dX10_feed_97 ?_
      refine q_putI (q_sh0 (w.fx fx23)) (by decide) (by decide) rfl rfl ⟨rfl, rfl⟩ lfX10_78 dX10_feed_98 ?_
      obtain ⟨S24, e25, h⟩ := q_bindS h
      refine q_st e25 ?_
      have fx26 : q_Fx S S24 := e25 ▸ q_Fx.sI (fx23)
      refine q_aload_n 1 rfl rfl dX10_feed_101 ?_
      refine q_getI (q_sh0 (w.fx fx26)) (by decide) (by decide) rfl lfX10_75 dX10_feed_102 ?_
      obtain rfl := Option.some.inj h
      exact q_iret rfl rfl dX10_feed_105 hQ
    · rw [if_neg c] at h
      refine q_iconst (v := (-1 : Int32)) (by decide) dX10_feed_19 ?_
      obtain rfl := Option.some.inj h
      exact q_iret rfl rfl dX10_feed_20 hQ
set_option maxRecDepth 20000 in
theorem kX10_end {S : QS} {g : QG} {Q : Option Value → QS → Prop}  {x1 : Int32} {r : Bool × QS} (w : q_Wire S) (h : fX10_end S x1 = some r) (hQ : Q (some (.int (q_b r.1))) r.2) : q_M g mX10_end 1 0 0 [.ref 0, .int x1] S Q := by
  unfold fX10_end at h
  show q_L g mX10_end 1 0 0 Q 0 0 0 [(0, .ref 0), (1, .int x1)] [] S
  refine q_iload_n 1 rfl rfl dX10_end_0 ?_
  refine q_if_lt 12 (by decide) dX10_end_1 (fun c => ?_) (fun c => ?_)
  · rw [if_pos c] at h
    refine q_iconst (v := (0 : Int32)) (by decide) dX10_end_12 ?_
    obtain rfl := Option.some.inj h
    exact q_iret rfl (by decide) dX10_end_13 hQ
  · rw [if_neg c] at h
    refine q_iload_n 1 rfl rfl dX10_end_4 ?_
    refine q_aload_n 0 rfl rfl dX10_end_5 ?_
    refine q_getI (q_sh0 w) (by decide) (by decide) rfl lfX10_75 dX10_end_6 ?_
    refine q_icmp_le 14 (by decide) dX10_end_9 (fun c => ?_) (fun c => ?_)
    · rw [if_pos c] at h
      refine q_aload_n 0 rfl rfl dX10_end_14 ?_
      refine q_getR (q_sh0 w) (by decide) (by decide) rfl lfX10_23 dX10_end_15 (r := 2) (q_wr0_3 w) ?_
      refine q_aload_n 0 rfl rfl dX10_end_18 ?_
      refine q_getR (q_sh0 w) (by decide) (by decide) rfl lfX10_9 dX10_end_19 (r := 1) (q_wr0_0 w) ?_
      refine q_iload_n 1 rfl rfl dX10_end_22 ?_
      obtain ⟨r1, e2, h⟩ := q_bind h
      refine q_callV (ci := 8) (d := 0) (Mc := mX8_take) (kc := 0) (nc := 0) [.ref 1, .int x1] okX8_take (q_sh2 w) (by decide) rfl lmX10_82 inX8_take seX8_take rfl (Nat.le_of_ble_eq_true rfl) (Nat.le_of_ble_eq_true rfl) (Nat.le_refl _) (Nat.le_refl _) dX10_end_23 (q_L.deep (by decide) (kX8_take (Q := fun r S' => r = none ∧ S' = r1) w e2 ⟨rfl, rfl⟩)) (q_kV ?_)
      have fx3 : q_Fx S r1 := q_Fx.tr (q_Fx.rf S) (fxX8_take e2)
      refine q_aload_n 0 rfl rfl dX10_end_26 ?_
      refine q_iconst (v := (0 : Int32)) (by decide) dX10_end_27 ?_
      refine q_putI (q_sh0 (w.fx fx3)) (by decide) (by decide) rfl rfl ⟨rfl, rfl⟩ lfX10_75 dX10_end_28 ?_
      obtain ⟨S4, e5, h⟩ := q_bindS h
      refine q_st e5 ?_
      have fx6 : q_Fx S S4 := e5 ▸ q_Fx.sI (fx3)
      refine q_iconst (v := (1 : Int32)) (by decide) dX10_end_31 ?_
      obtain rfl := Option.some.inj h
      exact q_iret rfl (by decide) dX10_end_32 hQ
    · rw [if_neg c] at h
      refine q_iconst (v := (0 : Int32)) (by decide) dX10_end_12 ?_
      obtain rfl := Option.some.inj h
      exact q_iret rfl (by decide) dX10_end_13 hQ
set_option maxRecDepth 20000 in
theorem kX10_nameFault {S : QS} {g : QG} {Q : Option Value → QS → Prop} {pp : Nat} {ps : Nat}  {r : Int32 × QS} (w : q_Wire S) (hpp : q_pok pp) (hps : q_pok ps) (aO : q_aO S pp ps) (h : fX10_nameFault S pp ps = some r) (hQ : Q (some (.int r.1)) r.2) : q_M g mX10_nameFault 9 0 0 [.ref 0] S Q := by
  unfold fX10_nameFault at h
  show q_L g mX10_nameFault 9 0 0 Q 0 0 0 [(0, .ref 0)] [] S
  refine q_aload_n 0 rfl rfl dX10_nameFault_0 ?_
  refine q_getR (q_sh0 w) (by decide) (by decide) rfl lfX10_41 dX10_nameFault_1 (r := 78) (q_wr0_5 w) ?_
  refine q_aload_n 0 rfl rfl dX10_nameFault_4 ?_
  refine q_getR (q_sh0 w) (by decide) (by decide) rfl lfX10_72 dX10_nameFault_5 (r := ps) (aO).2 ?_
  obtain ⟨r1, e2, h⟩ := q_bind h
  refine q_callV (ci := 4) (d := 8) (Mc := mX4_begin) (kc := 0) (nc := 0) [.ref ps] okX4_begin (q_sh78 w) (by decide) rfl lmX10_109 inX4_begin seX4_begin rfl (Nat.le_of_ble_eq_true rfl) (Nat.le_of_ble_eq_true rfl) (Nat.le_refl _) (Nat.le_refl _) dX10_nameFault_8 (q_L.deep (by decide) (kX4_begin (Q := fun r S' => r = none ∧ S' = r1) w hps e2 ⟨rfl, rfl⟩)) (q_kV ?_)
  obtain ⟨hg3, h⟩ := q_guard h
  obtain ⟨w4, aO5⟩ := q_okO_of hg3
  refine q_aload_n 0 rfl rfl dX10_nameFault_11 ?_
  refine q_getR (q_sh0 w4) (by decide) (by decide) rfl lfX10_41 dX10_nameFault_12 (r := 78) (q_wr0_5 w4) ?_
  obtain ⟨hg6, h⟩ := q_guard h
  have aN7 := q_aNb_of hg6
  obtain ⟨r8, e9, h⟩ := q_bind h
  refine q_callV (ci := 4) (d := 8) (Mc := mX4_classFault) (kc := 0) (nc := 0) [] okX4_classFault (q_sh78 w4) (by decide) rfl lmX10_112 inX4_classFault seX4_classFault rfl (Nat.le_of_ble_eq_true rfl) (Nat.le_of_ble_eq_true rfl) (Nat.le_refl _) (Nat.le_refl _) dX10_nameFault_15 (q_L.deep (by decide) (kX4_classFault (Q := fun r S' => r = some (.int r8.1) ∧ S' = r8.2) w4 hps aN7 e9 ⟨rfl, rfl⟩)) (q_kI ?_)
  have fx10 : q_Fx r1 r8.2 := q_Fx.tr (q_Fx.rf r1) (fxX4_classFault e9)
  refine q_istore_n [(1, .int r8.1), (0, .ref 0)] rfl (by decide) rfl dX10_nameFault_18 ?_
  refine q_iload_n 0 rfl rfl dX10_nameFault_19 ?_
  refine q_iconst (v := (-1 : Int32)) (by decide) dX10_nameFault_20 ?_
  obtain ⟨v16, hv, h⟩ := q_bind h
  have fx17 : q_Fx r1 v16.2 := by
    replace h := hv
    by_cases c : r8.1 = (-1 : Int32)
    · rw [if_pos c] at h
      obtain ⟨hg11, h⟩ := q_guard h
      obtain ⟨r13, e14, h⟩ := q_bind h
      have fx15 : q_Fx r1 r13.2 := q_Fx.tr (fx10) (fxX4_memberFault e14)
      obtain rfl := Option.some.inj h
      exact fx15
    · rw [if_neg c] at h
      obtain rfl := Option.some.inj h
      exact fx10
  have K1 : q_L g mX10_nameFault 9 0 0 Q 0 0 32 [(0, .ref 0), (1, .int v16.1)] [] v16.2 := by
    refine q_iload_n 1 rfl rfl dX10_nameFault_32 ?_
    refine q_iconst (v := (-1 : Int32)) (by decide) dX10_nameFault_33 ?_
    obtain ⟨v23, hv, h⟩ := q_bind h
    have fx24 : q_Fx r1 v23.2 := by
      replace h := hv
      by_cases c : v16.1 = (-1 : Int32)
      · rw [if_pos c] at h
        obtain ⟨hg18, h⟩ := q_guard h
        obtain ⟨r20, e21, h⟩ := q_bind h
        have fx22 : q_Fx r1 r20.2 := q_Fx.tr (fx17) (fxX4_lineFault e21)
        obtain rfl := Option.some.inj h
        exact fx22
      · rw [if_neg c] at h
        obtain rfl := Option.some.inj h
        exact fx17
    have K2 : q_L g mX10_nameFault 9 0 0 Q 0 0 45 [(0, .ref 0), (1, .int v23.1)] [] v23.2 := by
      refine q_iload_n 1 rfl rfl dX10_nameFault_45 ?_
      refine q_iconst (v := (-1 : Int32)) (by decide) dX10_nameFault_46 ?_
      refine q_icmp_ne 60 (by decide) dX10_nameFault_47 (fun c => ?_) (fun c => ?_)
      · rw [if_neg c] at h
        refine q_iload_n 1 rfl rfl dX10_nameFault_60 ?_
        obtain rfl := Option.some.inj h
        exact q_iret rfl rfl dX10_nameFault_61 hQ
      · rw [if_pos c] at h
        refine q_aload_n 0 rfl rfl dX10_nameFault_50 ?_
        refine q_getR (q_sh0 (w4.fx fx24)) (by decide) (by decide) rfl lfX10_41 dX10_nameFault_51 (r := 78) (q_wr0_5 (w4.fx fx24)) ?_
        obtain ⟨hg25, h⟩ := q_guard h
        have aN26 := q_aNb_of hg25
        obtain ⟨r27, e28, h⟩ := q_bind h
        refine q_callV (ci := 4) (d := 8) (Mc := mX4_mainFault) (kc := 0) (nc := 0) [] okX4_mainFault (q_sh78 (w4.fx fx24)) (by decide) rfl lmX10_121 inX4_mainFault seX4_mainFault rfl (Nat.le_of_ble_eq_true rfl) (Nat.le_of_ble_eq_true rfl) (Nat.le_refl _) (Nat.le_refl _) dX10_nameFault_54 (q_L.deep (by decide) (kX4_mainFault (Q := fun r S' => r = some (.int r27.1) ∧ S' = r27.2) (w4.fx fx24) hps aN26 e28 ⟨rfl, rfl⟩)) (q_kI ?_)
        have fx29 : q_Fx r1 r27.2 := q_Fx.tr (fx24) (fxX4_mainFault e28)
        refine q_goto 61 (by decide) dX10_nameFault_57 ?_
        obtain rfl := Option.some.inj h
        exact q_iret rfl rfl dX10_nameFault_61 hQ
    replace h := hv
    refine q_icmp_ne 45 (by decide) dX10_nameFault_34 (fun c => ?_) (fun c => ?_)
    · rw [if_neg c] at h
      obtain rfl := Option.some.inj h
      refine q_sub [0, 1] rfl ?_
      exact K2
    · rw [if_pos c] at h
      refine q_aload_n 0 rfl rfl dX10_nameFault_37 ?_
      refine q_getR (q_sh0 (w4.fx fx17)) (by decide) (by decide) rfl lfX10_41 dX10_nameFault_38 (r := 78) (q_wr0_5 (w4.fx fx17)) ?_
      obtain ⟨hg18, h⟩ := q_guard h
      have aN19 := q_aNb_of hg18
      obtain ⟨r20, e21, h⟩ := q_bind h
      refine q_callV (ci := 4) (d := 8) (Mc := mX4_lineFault) (kc := 0) (nc := 0) [] okX4_lineFault (q_sh78 (w4.fx fx17)) (by decide) rfl lmX10_118 inX4_lineFault seX4_lineFault rfl (Nat.le_of_ble_eq_true rfl) (Nat.le_of_ble_eq_true rfl) (Nat.le_refl _) (Nat.le_refl _) dX10_nameFault_41 (q_L.deep (by decide) (kX4_lineFault (Q := fun r S' => r = some (.int r20.1) ∧ S' = r20.2) (w4.fx fx17) hps aN19 e21 ⟨rfl, rfl⟩)) (q_kI ?_)
      have fx22 : q_Fx r1 r20.2 := q_Fx.tr (fx17) (fxX4_lineFault e21)
      refine q_istore_n [(1, .int r20.1), (0, .ref 0)] rfl (by decide) rfl dX10_nameFault_44 ?_
      obtain rfl := Option.some.inj h
      refine q_sub [1, 0] rfl ?_
      exact K2
  replace h := hv
  refine q_icmp_ne 32 (by decide) dX10_nameFault_21 (fun c => ?_) (fun c => ?_)
  · rw [if_neg c] at h
    obtain rfl := Option.some.inj h
    refine q_sub [1, 0] rfl ?_
    exact K1
  · rw [if_pos c] at h
    refine q_aload_n 1 rfl rfl dX10_nameFault_24 ?_
    refine q_getR (q_sh0 (w4.fx fx10)) (by decide) (by decide) rfl lfX10_41 dX10_nameFault_25 (r := 78) (q_wr0_5 (w4.fx fx10)) ?_
    obtain ⟨hg11, h⟩ := q_guard h
    have aN12 := q_aNb_of hg11
    obtain ⟨r13, e14, h⟩ := q_bind h
    refine q_callV (ci := 4) (d := 8) (Mc := mX4_memberFault) (kc := 0) (nc := 0) [] okX4_memberFault (q_sh78 (w4.fx fx10)) (by decide) rfl lmX10_115 inX4_memberFault seX4_memberFault rfl (Nat.le_of_ble_eq_true rfl) (Nat.le_of_ble_eq_true rfl) (Nat.le_refl _) (Nat.le_refl _) dX10_nameFault_28 (q_L.deep (by decide) (kX4_memberFault (Q := fun r S' => r = some (.int r13.1) ∧ S' = r13.2) (w4.fx fx10) hps aN12 e14 ⟨rfl, rfl⟩)) (q_kI ?_)
    have fx15 : q_Fx r1 r13.2 := q_Fx.tr (fx10) (fxX4_memberFault e14)
    refine q_istore_n [(1, .int r13.1), (0, .ref 0)] rfl (by decide) rfl dX10_nameFault_31 ?_
    obtain rfl := Option.some.inj h
    refine q_sub [1, 0] rfl ?_
    exact K1
set_option maxRecDepth 20000 in
theorem sX10_typeFault_24 {g : QG} {Q : Option Value → QS → Prop} {pp : Nat} {ps : Nat}  {x : Int32 × QS} {z : (Int32 × QS) ⊕ (Int32 × QS)} (w : q_Wire x.2) (hpp : q_pok pp) (hps : q_pok ps) (aO : q_aO x.2 pp ps) (h : tX10_typeFault_24 pp ps x = some z) (hQ : (Sum.elim (fun r0 : Int32 × QS => Q (some (.int r0.1)) r0.2) (fun y : Int32 × QS => q_L g mX10_typeFault 6 0 0 Q 0 0 24 [(0, .ref 0), (1, .int y.1)] [] y.2) z)) : q_L g mX10_typeFault 6 0 0 Q 0 0 24 [(0, .ref 0), (1, .int x.1)] [] x.2 := by
  unfold tX10_typeFault_24 at h
  refine q_iload_n 1 rfl rfl dX10_typeFault_24 ?_
  refine q_aload_n 0 rfl rfl dX10_typeFault_25 ?_
  refine q_getR (q_sh0 w) (by decide) (by decide) rfl lfX10_72 dX10_typeFault_26 (r := ps) (aO).2 ?_
  refine q_getIN (q_shP0 w hps) (by decide) (by decide) rfl lfX10_126 dX10_typeFault_29 ?_
  refine q_icmp_ge 82 (by decide) dX10_typeFault_32 (fun c => ?_) (fun c => ?_)
  · rw [if_pos c] at h
    refine q_iconst (v := (-1 : Int32)) (by decide) dX10_typeFault_82 ?_
    cases h
    exact q_iret rfl rfl dX10_typeFault_83 hQ
  · rw [if_neg c] at h
    refine q_aload_n 0 rfl rfl dX10_typeFault_35 ?_
    refine q_getR (q_sh0 w) (by decide) (by decide) rfl lfX10_50 dX10_typeFault_36 (r := 81) (q_wr0_6 w) ?_
    refine q_iload_n 1 rfl rfl dX10_typeFault_39 ?_
    obtain ⟨hg1, h⟩ := q_guard h
    have aH2 := q_aHb_ofM hg1
    obtain ⟨r3, e4, h⟩ := q_bind h
    refine q_callV (ci := 3) (d := 5) (Mc := mX3_firstFault) (kc := 0) (nc := 0) [.int x.1] okX3_firstFault (q_sh81 w) (by decide) rfl lmX10_129 inX3_firstFault seX3_firstFault rfl (Nat.le_of_ble_eq_true rfl) (Nat.le_of_ble_eq_true rfl) (Nat.le_refl _) (Nat.le_refl _) dX10_typeFault_40 (q_L.deep (by decide) (kX3_firstFault (Q := fun r S' => r = some (.int r3.1) ∧ S' = r3.2) w hps aH2 e4 ⟨rfl, rfl⟩)) (q_kI ?_)
    have fx5 : q_Fx x.2 r3.2 := q_Fx.tr (q_Fx.rf x.2) (fxX3_firstFault e4)
    refine q_istore_n [(2, .int r3.1), (0, .ref 0), (1, .int x.1)] rfl (by decide) rfl dX10_typeFault_43 ?_
    refine q_iload_n 0 rfl rfl dX10_typeFault_44 ?_
    refine q_iconst (v := (-1 : Int32)) (by decide) dX10_typeFault_45 ?_
    obtain ⟨v11, hv, h⟩ := q_bind h
    have fx12 : q_Fx x.2 v11.2 := by
      replace h := hv
      by_cases c : r3.1 = (-1 : Int32)
      · rw [if_pos c] at h
        obtain ⟨hg6, h⟩ := q_guard h
        obtain ⟨r8, e9, h⟩ := q_bind h
        have fx10 : q_Fx x.2 r8.2 := q_Fx.tr (fx5) (fxX9_firstFault e9)
        obtain rfl := Option.some.inj h
        exact fx10
      · rw [if_neg c] at h
        obtain rfl := Option.some.inj h
        exact fx5
    have K1 : q_L g mX10_typeFault 6 0 0 Q 0 0 58 [(0, .ref 0), (1, .int x.1), (2, .int v11.1)] [] v11.2 := by
      refine q_iload_n 2 rfl rfl dX10_typeFault_58 ?_
      refine q_iconst (v := (-1 : Int32)) (by decide) dX10_typeFault_59 ?_
      refine q_icmp_eq 76 (by decide) dX10_typeFault_60 (fun c => ?_) (fun c => ?_)
      · rw [if_pos c] at h
        refine q_iinc (v := (x.1 + (1 : Int32))) 1 [(1, .int (x.1 + (1 : Int32))), (0, .ref 0), (2, .int v11.1)] (by decide) rfl (congrArg (fun t => x.1 + t) (by decide)) rfl dX10_typeFault_76 ?_
        refine q_goto 24 (by decide) dX10_typeFault_79 ?_
        refine q_sub [1, 0] rfl ?_
        cases h
        exact hQ
      · rw [if_neg c] at h
        refine q_aload_n 0 rfl rfl dX10_typeFault_63 ?_
        refine q_getR (q_sh0 (w.fx fx12)) (by decide) (by decide) rfl lfX10_72 dX10_typeFault_64 (r := ps) (aO.fx fx12).2 ?_
        refine q_getRN (q_shP0 (w.fx fx12) hps) (by decide) (by decide) rfl lfX10_133 dX10_typeFault_67 (r := (ps + 10)) (q_wrP0_1 (w.fx fx12) hps) ?_
        refine q_getRN (q_shP10 (w.fx fx12) hps) (by decide) (by decide) rfl lfX10_137 dX10_typeFault_70 (r := (ps + 14)) (q_wrP10_4 (w.fx fx12) hps) ?_
        refine q_iload_n 2 rfl rfl dX10_typeFault_73 ?_
        obtain ⟨hg13, h⟩ := q_guard h
        refine q_iald (q_shP14 (w.fx fx12) hps) (q_inb_in hg13) dX10_typeFault_74 ?_
        cases h
        exact q_iret rfl rfl dX10_typeFault_75 hQ
    replace h := hv
    refine q_icmp_ne 58 (by decide) dX10_typeFault_46 (fun c => ?_) (fun c => ?_)
    · rw [if_neg c] at h
      obtain rfl := Option.some.inj h
      refine q_sub [1, 2, 0] rfl ?_
      exact K1
    · rw [if_pos c] at h
      refine q_aload_n 1 rfl rfl dX10_typeFault_49 ?_
      refine q_getR (q_sh0 (w.fx fx5)) (by decide) (by decide) rfl lfX10_57 dX10_typeFault_50 (r := 84) (q_wr0_7 (w.fx fx5)) ?_
      refine q_iload_n 2 rfl rfl dX10_typeFault_53 ?_
      obtain ⟨hg6, h⟩ := q_guard h
      have aF7 := q_aFb_of hg6
      obtain ⟨r8, e9, h⟩ := q_bind h
      refine q_callV (ci := 9) (d := 5) (Mc := mX9_firstFault) (kc := 0) (nc := 0) [.int x.1] okX9_firstFault (q_sh84 (w.fx fx5)) (by decide) rfl lmX10_132 inX9_firstFault seX9_firstFault rfl (Nat.le_of_ble_eq_true rfl) (Nat.le_of_ble_eq_true rfl) (Nat.le_refl _) (Nat.le_refl _) dX10_typeFault_54 (q_L.deep (by decide) (kX9_firstFault (Q := fun r S' => r = some (.int r8.1) ∧ S' = r8.2) (w.fx fx5) hps aF7 e9 ⟨rfl, rfl⟩)) (q_kI ?_)
      have fx10 : q_Fx x.2 r8.2 := q_Fx.tr (fx5) (fxX9_firstFault e9)
      refine q_istore_n [(2, .int r8.1), (0, .ref 0), (1, .int x.1)] rfl (by decide) rfl dX10_typeFault_57 ?_
      obtain rfl := Option.some.inj h
      refine q_sub [1, 2, 0] rfl ?_
      exact K1
theorem lX10_typeFault_24 {g : QG} {Q : Option Value → QS → Prop} {pp : Nat} {ps : Nat}  {r : Int32 × QS} (hpp : q_pok pp) (hps : q_pok ps) (hQ : Q (some (.int r.1)) r.2) : ∀ (c : Nat) (x : Int32 × QS), q_Wire x.2 → q_aO x.2 pp ps → q_it (tX10_typeFault_24 pp ps) c x = some r → q_L g mX10_typeFault 6 0 0 Q 0 0 24 [(0, .ref 0), (1, .int x.1)] [] x.2 := by
  intro c
  induction c with
  | zero => intro x w aO h; cases h
  | succ c ih =>
    intro x w aO h
    simp only [q_it] at h
    cases hz : tX10_typeFault_24 pp ps x with
    | none => rw [hz] at h; cases h
    | some z =>
      rw [hz] at h
      refine sX10_typeFault_24 w hpp hps aO hz ?_
      rcases z with z | y
      · cases h; exact hQ
      · have fz := fxtX10_typeFault_24 hz; exact ih y (w.fx fz) (aO.fx fz) h
theorem kX10_typeFault_24 {S : QS} {g : QG} {Q : Option Value → QS → Prop} {pp : Nat} {ps : Nat} {y1 : Int32} {r : Int32 × QS} (w : q_Wire S) (hpp : q_pok pp) (hps : q_pok ps) (aO : q_aO S pp ps) (h : fX10_typeFault_24 S pp ps y1 = some r) (hQ : Q (some (.int r.1)) r.2) : q_L g mX10_typeFault 6 0 0 Q 0 0 24 [(0, .ref 0), (1, .int y1)] [] S := by
  obtain ⟨c, hc⟩ := q_run_it h
  exact lX10_typeFault_24 hpp hps hQ c (y1, S) w aO hc
set_option maxRecDepth 20000 in
theorem kX10_typeFault {S : QS} {g : QG} {Q : Option Value → QS → Prop} {pp : Nat} {ps : Nat}  {r : Int32 × QS} (w : q_Wire S) (hpp : q_pok pp) (hps : q_pok ps) (aO : q_aO S pp ps) (h : fX10_typeFault S pp ps = some r) (hQ : Q (some (.int r.1)) r.2) : q_M g mX10_typeFault 6 0 0 [.ref 0] S Q := by
  unfold fX10_typeFault at h
  show q_L g mX10_typeFault 6 0 0 Q 0 0 0 [(0, .ref 0)] [] S
  refine q_aload_n 0 rfl rfl dX10_typeFault_0 ?_
  refine q_getR (q_sh0 w) (by decide) (by decide) rfl lfX10_50 dX10_typeFault_1 (r := 81) (q_wr0_6 w) ?_
  refine q_aload_n 0 rfl rfl dX10_typeFault_4 ?_
  refine q_getR (q_sh0 w) (by decide) (by decide) rfl lfX10_72 dX10_typeFault_5 (r := ps) (aO).2 ?_
  obtain ⟨r14, e15, h⟩ := q_bind h
  refine q_callV (ci := 3) (d := 5) (Mc := mX3_begin) (kc := 0) (nc := 0) [.ref ps] okX3_begin (q_sh81 w) (by decide) rfl lmX10_124 inX3_begin seX3_begin rfl (Nat.le_of_ble_eq_true rfl) (Nat.le_of_ble_eq_true rfl) (Nat.le_refl _) (Nat.le_refl _) dX10_typeFault_8 (q_L.deep (by decide) (kX3_begin (Q := fun r S' => r = none ∧ S' = r14) w hps e15 ⟨rfl, rfl⟩)) (q_kV ?_)
  obtain ⟨hg16, h⟩ := q_guard h
  obtain ⟨w17, aO18⟩ := q_okO_of hg16
  refine q_aload_n 0 rfl rfl dX10_typeFault_11 ?_
  refine q_getR (q_sh0 w17) (by decide) (by decide) rfl lfX10_57 dX10_typeFault_12 (r := 84) (q_wr0_7 w17) ?_
  refine q_aload_n 0 rfl rfl dX10_typeFault_15 ?_
  refine q_getR (q_sh0 w17) (by decide) (by decide) rfl lfX10_72 dX10_typeFault_16 (r := ps) (aO18).2 ?_
  obtain ⟨r19, e20, h⟩ := q_bind h
  refine q_callV (ci := 9) (d := 5) (Mc := mX9_begin) (kc := 0) (nc := 0) [.ref ps] okX9_begin (q_sh84 w17) (by decide) rfl lmX10_125 inX9_begin seX9_begin rfl (Nat.le_of_ble_eq_true rfl) (Nat.le_of_ble_eq_true rfl) (Nat.le_refl _) (Nat.le_refl _) dX10_typeFault_19 (q_L.deep (by decide) (kX9_begin (Q := fun r S' => r = none ∧ S' = r19) w17 hps e20 ⟨rfl, rfl⟩)) (q_kV ?_)
  obtain ⟨hg21, h⟩ := q_guard h
  obtain ⟨w22, aO23⟩ := q_okO_of hg21
  refine q_iconst (v := (0 : Int32)) (by decide) dX10_typeFault_22 ?_
  refine q_istore_n [(1, .int (0 : Int32)), (0, .ref 0)] rfl (by decide) rfl dX10_typeFault_23 ?_
  refine q_sub [1, 0] rfl ?_
  exact kX10_typeFault_24 w22 hpp hps (aO23) h hQ
set_option maxRecDepth 20000 in
theorem kX10_takeSpare {S : QS} {g : QG} {Q : Option Value → QS → Prop} {pp : Nat} {ps : Nat}  {r : QS} (w : q_Wire S) (hpp : q_pok pp) (hps : q_pok ps) (aO : q_aO S pp ps) (h : fX10_takeSpare S pp ps = some r) (hQ : Q none r) : q_M g mX10_takeSpare 0 0 0 [.ref 0] S Q := by
  unfold fX10_takeSpare at h
  show q_L g mX10_takeSpare 0 0 0 Q 0 0 0 [(0, .ref 0)] [] S
  refine q_aload_n 0 rfl rfl dX10_takeSpare_0 ?_
  refine q_getR (q_sh0 w) (by decide) (by decide) rfl lfX10_68 dX10_takeSpare_1 (r := pp) (aO).1 ?_
  refine q_astore_n [(1, .ref pp), (0, .ref 0)] rfl (by decide) rfl dX10_takeSpare_4 ?_
  refine q_aload_n 1 rfl rfl dX10_takeSpare_5 ?_
  refine q_aload_n 1 rfl rfl dX10_takeSpare_6 ?_
  refine q_getR (q_sh0 w) (by decide) (by decide) rfl lfX10_72 dX10_takeSpare_7 (r := ps) (aO).2 ?_
  refine q_putR (q_sh0 w) (by decide) (by decide) rfl rfl lfX10_68 dX10_takeSpare_10 ?_
  obtain ⟨S1, e2, h⟩ := q_bindS h
  refine q_st e2 ?_
  have w4 : q_Wire S1 := e2 ▸ q_Wire.sR w (by decide)
  refine q_aload_n 1 rfl rfl dX10_takeSpare_13 ?_
  refine q_aload_n 0 rfl rfl dX10_takeSpare_14 ?_
  refine q_putR (q_sh0 w4) (by decide) (by decide) rfl rfl lfX10_72 dX10_takeSpare_15 ?_
  obtain ⟨S5, e6, h⟩ := q_bindS h
  refine q_st e6 ?_
  have w8 : q_Wire S5 := e6 ▸ q_Wire.sR w4 (by decide)
  refine q_aload_n 1 rfl rfl dX10_takeSpare_18 ?_
  refine q_iconst (v := (1 : Int32)) (by decide) dX10_takeSpare_19 ?_
  refine q_putI (q_sh0 w8) (by decide) (by decide) rfl rfl ⟨rfl, rfl⟩ lfX10_142 dX10_takeSpare_20 ?_
  obtain ⟨S9, e10, h⟩ := q_bindS h
  refine q_st e10 ?_
  have fx11 : q_Fx S5 S9 := e10 ▸ q_Fx.sI (q_Fx.rf S5)
  obtain rfl := Option.some.inj h
  exact q_vret rfl dX10_takeSpare_23 hQ
set_option maxRecDepth 20000 in
theorem kX10_load {S : QS} {g : QG} {Q : Option Value → QS → Prop} {pp : Nat} {ps : Nat}  {r : Int32 × QS} (w : q_Wire S) (hpp : q_pok pp) (hps : q_pok ps) (aO : q_aO S pp ps) (h : fX10_load S pp ps = some r) (hQ : Q (some (.int r.1)) r.2) : q_M g mX10_load 10 0 0 [.ref 0] S Q := by
  unfold fX10_load at h
  show q_L g mX10_load 10 0 0 Q 0 0 0 [(0, .ref 0)] [] S
  refine q_iconst (v := (1 : Int32)) (by decide) dX10_load_0 ?_
  refine q_istore_n [(1, .int (1 : Int32)), (0, .ref 0)] rfl (by decide) rfl dX10_load_1 ?_
  refine q_aload_n 1 rfl rfl dX10_load_2 ?_
  refine q_aload_n 1 rfl rfl dX10_load_3 ?_
  refine q_getR (q_sh0 w) (by decide) (by decide) rfl lfX10_23 dX10_load_4 (r := 2) (q_wr0_3 w) ?_
  obtain ⟨r1, e2, h⟩ := q_bind h
  refine q_callV (ci := 8) (d := 9) (Mc := mX8_split) (kc := 0) (nc := 0) [] okX8_split (q_sh2 w) (by decide) rfl lmX10_86 inX8_split seX8_split rfl (Nat.le_of_ble_eq_true rfl) (Nat.le_of_ble_eq_true rfl) (Nat.le_refl _) (Nat.le_refl _) dX10_load_7 (q_L.deep (by decide) (kX8_split (Q := fun r S' => r = some (.int (q_b r1.1)) ∧ S' = r1.2) w e2 ⟨rfl, rfl⟩)) (q_kI ?_)
  have fx3 : q_Fx S r1.2 := q_Fx.tr (q_Fx.rf S) (fxX8_split e2)
  obtain ⟨v4, hv, h⟩ := q_bind h
  have K1 : q_L g mX10_load 10 0 0 Q 0 0 24 [(0, .ref 0), (1, .int (1 : Int32))] [.int v4, .ref 0] r1.2 := by
    refine q_putI (q_sh0 (w.fx fx3)) (by decide) (by decide) rfl rfl ⟨rfl, rfl⟩ lfX10_13 dX10_load_24 ?_
    obtain ⟨S5, e6, h⟩ := q_bindS h
    refine q_st e6 ?_
    have fx7 : q_Fx S S5 := e6 ▸ q_Fx.sI (fx3)
    refine q_aload_n 0 rfl rfl dX10_load_27 ?_
    refine q_getI (q_sh0 (w.fx fx7)) (by decide) (by decide) rfl lfX10_13 dX10_load_28 ?_
    refine q_iconst (v := (-1 : Int32)) (by decide) dX10_load_31 ?_
    obtain ⟨v14, hv, h⟩ := q_bind h
    obtain ⟨hg15, h⟩ := q_guard h
    obtain ⟨w16, aO17⟩ := q_okO_of hg15
    have K2 : q_L g mX10_load 10 0 0 Q 0 0 48 [(0, .ref 0), (1, .int v14.1)] [] v14.2 := by
      refine q_aload_n 0 rfl rfl dX10_load_48 ?_
      refine q_getI (q_sh0 w16) (by decide) (by decide) rfl lfX10_13 dX10_load_49 ?_
      refine q_iconst (v := (-1 : Int32)) (by decide) dX10_load_52 ?_
      obtain ⟨v26, hv, h⟩ := q_bind h
      obtain ⟨hg27, h⟩ := q_guard h
      obtain ⟨w28, aO29⟩ := q_okO_of hg27
      have K3 : q_L g mX10_load 10 0 0 Q 0 0 66 [(0, .ref 0), (1, .int v26.1)] [] v26.2 := by
        refine q_aload_n 0 rfl rfl dX10_load_66 ?_
        refine q_getI (q_sh0 w28) (by decide) (by decide) rfl lfX10_13 dX10_load_67 ?_
        refine q_iconst (v := (-1 : Int32)) (by decide) dX10_load_70 ?_
        obtain ⟨v38, hv, h⟩ := q_bind h
        obtain ⟨hg39, h⟩ := q_guard h
        obtain ⟨w40, aO41⟩ := q_okO_of hg39
        have K4 : q_L g mX10_load 10 0 0 Q 0 0 84 [(0, .ref 0), (1, .int v38.1)] [] v38.2 := by
          refine q_aload_n 0 rfl rfl dX10_load_84 ?_
          refine q_getR (q_sh0 w40) (by decide) (by decide) rfl lfX10_23 dX10_load_85 (r := 2) (q_wr0_3 w40) ?_
          obtain ⟨r42, e43, h⟩ := q_bind h
          refine q_callV (ci := 8) (d := 9) (Mc := mX8_useUp) (kc := 0) (nc := 0) [] okX8_useUp (q_sh2 w40) (by decide) rfl lmX10_103 inX8_useUp seX8_useUp rfl (Nat.le_of_ble_eq_true rfl) (Nat.le_of_ble_eq_true rfl) (Nat.le_refl _) (Nat.le_refl _) dX10_load_88 (q_L.deep (by decide) (kX8_useUp (Q := fun r S' => r = none ∧ S' = r42) w40 e43 ⟨rfl, rfl⟩)) (q_kV ?_)
          have fx44 : q_Fx v38.2 r42 := q_Fx.tr (q_Fx.rf v38.2) (fxX8_useUp e43)
          refine q_aload_n 0 rfl rfl dX10_load_91 ?_
          refine q_getI (q_sh0 (w40.fx fx44)) (by decide) (by decide) rfl lfX10_13 dX10_load_92 ?_
          refine q_iconst (v := (-1 : Int32)) (by decide) dX10_load_95 ?_
          refine q_icmp_ne 105 (by decide) dX10_load_96 (fun c => ?_) (fun c => ?_)
          · rw [if_neg c] at h
            refine q_iload_n 1 rfl rfl dX10_load_105 ?_
            obtain rfl := Option.some.inj h
            exact q_iret rfl rfl dX10_load_106 hQ
          · rw [if_pos c] at h
            refine q_iconst (v := (0 : Int32)) (by decide) dX10_load_99 ?_
            refine q_istore_n [(1, .int (0 : Int32)), (0, .ref 0)] rfl (by decide) rfl dX10_load_100 ?_
            refine q_aload_n 1 rfl rfl dX10_load_101 ?_
            obtain ⟨r45, e46, h⟩ := q_bind h
            refine q_callV (ci := 10) (d := 9) (Mc := mX10_takeSpare) (kc := 0) (nc := 0) [] okX10_takeSpare (q_sh0 (w40.fx fx44)) (by decide) rfl lmX10_106 inX10_takeSpare seX10_takeSpare rfl (Nat.le_of_ble_eq_true rfl) (Nat.le_of_ble_eq_true rfl) (Nat.le_refl _) (Nat.le_refl _) dX10_load_102 (q_L.deep (by decide) (kX10_takeSpare (Q := fun r S' => r = none ∧ S' = r45) (w40.fx fx44) hpp hps (aO41.fx fx44) e46 ⟨rfl, rfl⟩)) (q_kV ?_)
            refine q_iload_n 0 rfl rfl dX10_load_105 ?_
            obtain rfl := Option.some.inj h
            exact q_iret rfl rfl dX10_load_106 hQ
        replace h := hv
        refine q_icmp_ne 84 (by decide) dX10_load_71 (fun c => ?_) (fun c => ?_)
        · rw [if_neg c] at h
          obtain rfl := Option.some.inj h
          refine q_sub [0, 1] rfl ?_
          exact K4
        · rw [if_pos c] at h
          refine q_iconst (v := (4 : Int32)) (by decide) dX10_load_74 ?_
          refine q_istore_n [(1, .int (4 : Int32)), (0, .ref 0)] rfl (by decide) rfl dX10_load_75 ?_
          refine q_aload_n 1 rfl rfl dX10_load_76 ?_
          refine q_aload_n 1 rfl rfl dX10_load_77 ?_
          obtain ⟨r30, e31, h⟩ := q_bind h
          refine q_callV (ci := 10) (d := 9) (Mc := mX10_typeFault) (kc := 0) (nc := 0) [] okX10_typeFault (q_sh0 w28) (by decide) rfl lmX10_100 inX10_typeFault seX10_typeFault rfl (Nat.le_of_ble_eq_true rfl) (Nat.le_of_ble_eq_true rfl) (Nat.le_refl _) (Nat.le_refl _) dX10_load_78 (q_L.deep (by decide) (kX10_typeFault (Q := fun r S' => r = some (.int r30.1) ∧ S' = r30.2) w28 hpp hps (aO29) e31 ⟨rfl, rfl⟩)) (q_kI ?_)
          obtain ⟨hg32, h⟩ := q_guard h
          obtain ⟨w33, aO34⟩ := q_okO_of hg32
          refine q_putI (q_sh0 w33) (by decide) (by decide) rfl rfl ⟨rfl, rfl⟩ lfX10_13 dX10_load_81 ?_
          obtain ⟨S35, e36, h⟩ := q_bindS h
          refine q_st e36 ?_
          have fx37 : q_Fx r30.2 S35 := e36 ▸ q_Fx.sI (q_Fx.rf r30.2)
          obtain rfl := Option.some.inj h
          refine q_sub [1, 0] rfl ?_
          exact K4
      replace h := hv
      refine q_icmp_ne 66 (by decide) dX10_load_53 (fun c => ?_) (fun c => ?_)
      · rw [if_neg c] at h
        obtain rfl := Option.some.inj h
        refine q_sub [0, 1] rfl ?_
        exact K3
      · rw [if_pos c] at h
        refine q_iconst (v := (3 : Int32)) (by decide) dX10_load_56 ?_
        refine q_istore_n [(1, .int (3 : Int32)), (0, .ref 0)] rfl (by decide) rfl dX10_load_57 ?_
        refine q_aload_n 1 rfl rfl dX10_load_58 ?_
        refine q_aload_n 1 rfl rfl dX10_load_59 ?_
        obtain ⟨r18, e19, h⟩ := q_bind h
        refine q_callV (ci := 10) (d := 9) (Mc := mX10_nameFault) (kc := 0) (nc := 0) [] okX10_nameFault (q_sh0 w16) (by decide) rfl lmX10_97 inX10_nameFault seX10_nameFault rfl (Nat.le_of_ble_eq_true rfl) (Nat.le_of_ble_eq_true rfl) (Nat.le_refl _) (Nat.le_refl _) dX10_load_60 (q_L.deep (by decide) (kX10_nameFault (Q := fun r S' => r = some (.int r18.1) ∧ S' = r18.2) w16 hpp hps (aO17) e19 ⟨rfl, rfl⟩)) (q_kI ?_)
        obtain ⟨hg20, h⟩ := q_guard h
        obtain ⟨w21, aO22⟩ := q_okO_of hg20
        refine q_putI (q_sh0 w21) (by decide) (by decide) rfl rfl ⟨rfl, rfl⟩ lfX10_13 dX10_load_63 ?_
        obtain ⟨S23, e24, h⟩ := q_bindS h
        refine q_st e24 ?_
        have fx25 : q_Fx r18.2 S23 := e24 ▸ q_Fx.sI (q_Fx.rf r18.2)
        obtain rfl := Option.some.inj h
        refine q_sub [1, 0] rfl ?_
        exact K3
    replace h := hv
    refine q_icmp_ne 48 (by decide) dX10_load_32 (fun c => ?_) (fun c => ?_)
    · rw [if_neg c] at h
      obtain rfl := Option.some.inj h
      refine q_sub [0, 1] rfl ?_
      exact K2
    · rw [if_pos c] at h
      refine q_iconst (v := (2 : Int32)) (by decide) dX10_load_35 ?_
      refine q_istore_n [(1, .int (2 : Int32)), (0, .ref 0)] rfl (by decide) rfl dX10_load_36 ?_
      refine q_aload_n 1 rfl rfl dX10_load_37 ?_
      refine q_aload_n 1 rfl rfl dX10_load_38 ?_
      refine q_getR (q_sh0 (w.fx fx7)) (by decide) (by decide) rfl lfX10_32 dX10_load_39 (r := 77) (q_wr0_4 (w.fx fx7)) ?_
      obtain ⟨r8, e9, h⟩ := q_bind h
      refine q_callV (ci := 7) (d := 9) (Mc := mX7_firstFault) (kc := 0) (nc := 0) [] okX7_firstFault (q_sh77 (w.fx fx7)) (by decide) rfl lmX10_93 inX7_firstFault seX7_firstFault rfl (Nat.le_of_ble_eq_true rfl) (Nat.le_of_ble_eq_true rfl) (Nat.le_refl _) (Nat.le_refl _) dX10_load_42 (q_L.deep (by decide) (kX7_firstFault (Q := fun r S' => r = some (.int r8.1) ∧ S' = r8.2) (w.fx fx7) e9 ⟨rfl, rfl⟩)) (q_kI ?_)
      have fx10 : q_Fx S r8.2 := q_Fx.tr (fx7) (fxX7_firstFault e9)
      refine q_putI (q_sh0 (w.fx fx10)) (by decide) (by decide) rfl rfl ⟨rfl, rfl⟩ lfX10_13 dX10_load_45 ?_
      obtain ⟨S11, e12, h⟩ := q_bindS h
      refine q_st e12 ?_
      have fx13 : q_Fx S S11 := e12 ▸ q_Fx.sI (fx10)
      obtain rfl := Option.some.inj h
      refine q_sub [1, 0] rfl ?_
      exact K2
  replace h := hv
  refine q_if_eq 17 (by decide) dX10_load_10 (fun c => ?_) (fun c => ?_)
  · have c := q_b_0.mp c; rw [q_if0 c] at h
    refine q_aload_n 1 rfl rfl dX10_load_17 ?_
    refine q_getR (q_sh0 (w.fx fx3)) (by decide) (by decide) rfl lfX10_23 dX10_load_18 (r := 2) (q_wr0_3 (w.fx fx3)) ?_
    refine q_getIN (q_sh2 (w.fx fx3)) (by decide) (by decide) rfl lfX10_90 dX10_load_21 ?_
    obtain rfl := Option.some.inj h
    refine q_sub [1, 0] rfl ?_
    exact K1
  · have c := q_b_n.mp c; rw [q_if1 c] at h
    refine q_iconst (v := (-1 : Int32)) (by decide) dX10_load_13 ?_
    refine q_goto 24 (by decide) dX10_load_14 ?_
    obtain rfl := Option.some.inj h
    refine q_sub [1, 0] rfl ?_
    exact K1
set_option maxRecDepth 20000 in
theorem kX10_faultAt {S : QS} {g : QG} {Q : Option Value → QS → Prop}   {r : Int32} (w : q_Wire S) (h : fX10_faultAt S = some r) (hQ : Q (some (.int r)) S) : q_M g mX10_faultAt 0 0 0 [.ref 0] S Q := by
  unfold fX10_faultAt at h
  show q_L g mX10_faultAt 0 0 0 Q 0 0 0 [(0, .ref 0)] [] S
  refine q_aload_n 0 rfl rfl dX10_faultAt_0 ?_
  refine q_getI (q_sh0 w) (by decide) (by decide) rfl lfX10_13 dX10_faultAt_1 ?_
  obtain rfl := Option.some.inj h
  exact q_iret rfl rfl dX10_faultAt_4 hQ
set_option maxRecDepth 20000 in
theorem kX10_size {S : QS} {g : QG} {Q : Option Value → QS → Prop} {pp : Nat} {ps : Nat} {x1 : Int32} {r : Int32} (w : q_Wire S) (hpp : q_pok pp) (hps : q_pok ps) (aO : q_aO S pp ps) (h : fX10_size S pp ps x1 = some r) (hQ : Q (some (.int r)) S) : q_M g mX10_size 0 0 0 [.ref 0, .int x1] S Q := by
  unfold fX10_size at h
  show q_L g mX10_size 0 0 0 Q 0 0 0 [(0, .ref 0), (1, .int x1)] [] S
  refine q_aload_n 0 rfl rfl dX10_size_0 ?_
  refine q_getI (q_sh0 w) (by decide) (by decide) rfl lfX10_142 dX10_size_1 ?_
  refine q_if_ne 9 (by decide) dX10_size_4 (fun c => ?_) (fun c => ?_)
  · rw [if_neg c] at h
    refine q_iload_n 1 rfl rfl dX10_size_9 ?_
    by_cases c1 : x1 = (0 : Int32)
    · rw [if_pos c1] at h
      refine q_tabIn (M := mX10_size) (pc := 10) (x := x1) 48 (by rw [c1]; decide) (by rw [c1]; decide) (by rw [c1]; rfl) (by decide) dX10_size_10 ?_
      refine q_aload_n 0 rfl rfl dX10_size_48 ?_
      refine q_getR (q_sh0 w) (by decide) (by decide) rfl lfX10_68 dX10_size_49 (r := pp) (aO).1 ?_
      refine q_getRN (q_shP0 w hpp) (by decide) (by decide) rfl lfX10_133 dX10_size_52 (r := (pp + 10)) (q_wrP0_1 w hpp) ?_
      refine q_getIN (q_shP10 w hpp) (by decide) (by decide) rfl lfX10_146 dX10_size_55 ?_
      obtain rfl := Option.some.inj h
      exact q_iret rfl rfl dX10_size_58 hQ
    rw [if_neg c1] at h
    by_cases c2 : x1 = (1 : Int32)
    · rw [if_pos c2] at h
      refine q_tabIn (M := mX10_size) (pc := 10) (x := x1) 59 (by rw [c2]; decide) (by rw [c2]; decide) (by rw [c2]; rfl) (by decide) dX10_size_10 ?_
      refine q_aload_n 0 rfl rfl dX10_size_59 ?_
      refine q_getR (q_sh0 w) (by decide) (by decide) rfl lfX10_68 dX10_size_60 (r := pp) (aO).1 ?_
      refine q_getRN (q_shP0 w hpp) (by decide) (by decide) rfl lfX10_133 dX10_size_63 (r := (pp + 10)) (q_wrP0_1 w hpp) ?_
      refine q_getIN (q_shP10 w hpp) (by decide) (by decide) rfl lfX10_149 dX10_size_66 ?_
      obtain rfl := Option.some.inj h
      exact q_iret rfl rfl dX10_size_69 hQ
    rw [if_neg c2] at h
    by_cases c3 : x1 = (2 : Int32)
    · rw [if_pos c3] at h
      refine q_tabIn (M := mX10_size) (pc := 10) (x := x1) 70 (by rw [c3]; decide) (by rw [c3]; decide) (by rw [c3]; rfl) (by decide) dX10_size_10 ?_
      refine q_aload_n 0 rfl rfl dX10_size_70 ?_
      refine q_getR (q_sh0 w) (by decide) (by decide) rfl lfX10_68 dX10_size_71 (r := pp) (aO).1 ?_
      refine q_getIN (q_shP0 w hpp) (by decide) (by decide) rfl lfX10_126 dX10_size_74 ?_
      obtain rfl := Option.some.inj h
      exact q_iret rfl rfl dX10_size_77 hQ
    rw [if_neg c3] at h
    by_cases c4 : x1 = (3 : Int32)
    · rw [if_pos c4] at h
      refine q_tabIn (M := mX10_size) (pc := 10) (x := x1) 78 (by rw [c4]; decide) (by rw [c4]; decide) (by rw [c4]; rfl) (by decide) dX10_size_10 ?_
      refine q_aload_n 0 rfl rfl dX10_size_78 ?_
      refine q_getR (q_sh0 w) (by decide) (by decide) rfl lfX10_68 dX10_size_79 (r := pp) (aO).1 ?_
      refine q_getRN (q_shP0 w hpp) (by decide) (by decide) rfl lfX10_152 dX10_size_82 (r := (pp + 1)) (q_wrP0_0 w hpp) ?_
      refine q_getIN (q_shP1 w hpp) (by decide) (by decide) rfl lfX10_156 dX10_size_85 ?_
      obtain rfl := Option.some.inj h
      exact q_iret rfl rfl dX10_size_88 hQ
    rw [if_neg c4] at h
    by_cases c5 : x1 = (4 : Int32)
    · rw [if_pos c5] at h
      refine q_tabIn (M := mX10_size) (pc := 10) (x := x1) 89 (by rw [c5]; decide) (by rw [c5]; decide) (by rw [c5]; rfl) (by decide) dX10_size_10 ?_
      refine q_aload_n 0 rfl rfl dX10_size_89 ?_
      refine q_getR (q_sh0 w) (by decide) (by decide) rfl lfX10_68 dX10_size_90 (r := pp) (aO).1 ?_
      refine q_getRN (q_shP0 w hpp) (by decide) (by decide) rfl lfX10_152 dX10_size_93 (r := (pp + 1)) (q_wrP0_0 w hpp) ?_
      refine q_getIN (q_shP1 w hpp) (by decide) (by decide) rfl lfX10_161 dX10_size_96 ?_
      refine q_bipush (v := (8 : Int32)) (by decide) dX10_size_99 ?_
      refine q_isub dX10_size_101 ?_
      obtain rfl := Option.some.inj h
      exact q_iret rfl rfl dX10_size_102 hQ
    rw [if_neg c5] at h
    by_cases c6 : x1 = (5 : Int32)
    · rw [if_pos c6] at h
      refine q_tabIn (M := mX10_size) (pc := 10) (x := x1) 103 (by rw [c6]; decide) (by rw [c6]; decide) (by rw [c6]; rfl) (by decide) dX10_size_10 ?_
      refine q_aload_n 0 rfl rfl dX10_size_103 ?_
      refine q_getR (q_sh0 w) (by decide) (by decide) rfl lfX10_68 dX10_size_104 (r := pp) (aO).1 ?_
      refine q_getRN (q_shP0 w hpp) (by decide) (by decide) rfl lfX10_133 dX10_size_107 (r := (pp + 10)) (q_wrP0_1 w hpp) ?_
      refine q_getIN (q_shP10 w hpp) (by decide) (by decide) rfl lfX10_162 dX10_size_110 ?_
      obtain rfl := Option.some.inj h
      exact q_iret rfl rfl dX10_size_113 hQ
    rw [if_neg c6] at h
    refine q_tabOut (M := mX10_size) (pc := 10) (x := x1) 114 (by have := lv_neT (a := 0) c1 (by decide); have := lv_neT (a := 1) c2 (by decide); have := lv_neT (a := 2) c3 (by decide); have := lv_neT (a := 3) c4 (by decide); have := lv_neT (a := 4) c5 (by decide); have := lv_neT (a := 5) c6 (by decide); omega) (by decide) dX10_size_10 ?_
    refine q_iconst (v := (-1 : Int32)) (by decide) dX10_size_114 ?_
    obtain rfl := Option.some.inj h
    exact q_iret rfl rfl dX10_size_115 hQ
  · rw [if_pos c] at h
    refine q_iconst (v := (-1 : Int32)) (by decide) dX10_size_7 ?_
    obtain rfl := Option.some.inj h
    exact q_iret rfl rfl dX10_size_8 hQ
set_option maxRecDepth 20000 in
theorem kX10_height {S : QS} {g : QG} {Q : Option Value → QS → Prop} {pp : Nat} {ps : Nat} {x1 : Int32} {r : Int32} (w : q_Wire S) (hpp : q_pok pp) (hps : q_pok ps) (aO : q_aO S pp ps) (h : fX10_height S pp ps x1 = some r) (hQ : Q (some (.int r)) S) : q_M g mX10_height 0 0 0 [.ref 0, .int x1] S Q := by
  unfold fX10_height at h
  show q_L g mX10_height 0 0 0 Q 0 0 0 [(0, .ref 0), (1, .int x1)] [] S
  refine q_aload_n 0 rfl rfl dX10_height_0 ?_
  refine q_getI (q_sh0 w) (by decide) (by decide) rfl lfX10_142 dX10_height_1 ?_
  refine q_if_eq 25 (by decide) dX10_height_4 (fun c => ?_) (fun c => ?_)
  · rw [if_pos c] at h
    refine q_iconst (v := (-1 : Int32)) (by decide) dX10_height_25 ?_
    obtain rfl := Option.some.inj h
    exact q_iret rfl rfl dX10_height_26 hQ
  · rw [if_neg c] at h
    refine q_iload_n 1 rfl rfl dX10_height_7 ?_
    refine q_if_lt 25 (by decide) dX10_height_8 (fun c => ?_) (fun c => ?_)
    · rw [if_pos c] at h
      refine q_iconst (v := (-1 : Int32)) (by decide) dX10_height_25 ?_
      obtain rfl := Option.some.inj h
      exact q_iret rfl rfl dX10_height_26 hQ
    · rw [if_neg c] at h
      refine q_iload_n 1 rfl rfl dX10_height_11 ?_
      refine q_aload_n 0 rfl rfl dX10_height_12 ?_
      refine q_getR (q_sh0 w) (by decide) (by decide) rfl lfX10_68 dX10_height_13 (r := pp) (aO).1 ?_
      refine q_getRN (q_shP0 w hpp) (by decide) (by decide) rfl lfX10_133 dX10_height_16 (r := (pp + 10)) (q_wrP0_1 w hpp) ?_
      refine q_getIN (q_shP10 w hpp) (by decide) (by decide) rfl lfX10_146 dX10_height_19 ?_
      refine q_icmp_lt 27 (by decide) dX10_height_22 (fun c => ?_) (fun c => ?_)
      · rw [if_pos c] at h
        refine q_aload_n 0 rfl rfl dX10_height_27 ?_
        refine q_getR (q_sh0 w) (by decide) (by decide) rfl lfX10_68 dX10_height_28 (r := pp) (aO).1 ?_
        refine q_getRN (q_shP0 w hpp) (by decide) (by decide) rfl lfX10_133 dX10_height_31 (r := (pp + 10)) (q_wrP0_1 w hpp) ?_
        refine q_getRN (q_shP10 w hpp) (by decide) (by decide) rfl lfX10_165 dX10_height_34 (r := (pp + 17)) (q_wrP10_7 w hpp) ?_
        refine q_iload_n 1 rfl rfl dX10_height_37 ?_
        obtain ⟨hg1, h⟩ := q_guard h
        refine q_iald (q_shP17 w hpp) (q_inb_in hg1) dX10_height_38 ?_
        obtain rfl := Option.some.inj h
        exact q_iret rfl rfl dX10_height_39 hQ
      · rw [if_neg c] at h
        refine q_iconst (v := (-1 : Int32)) (by decide) dX10_height_25 ?_
        obtain rfl := Option.some.inj h
        exact q_iret rfl rfl dX10_height_26 hQ
set_option maxRecDepth 20000 in
theorem kX10_input {S : QS} {g : QG} {Q : Option Value → QS → Prop}  {x1 : Int32} {r : Bool × QS} (w : q_Wire S) (h : fX10_input S x1 = some r) (hQ : Q (some (.int (q_b r.1))) r.2) : q_M g mX10_input 1 0 0 [.ref 0, .int x1] S Q := by
  unfold fX10_input at h
  show q_L g mX10_input 1 0 0 Q 0 0 0 [(0, .ref 0), (1, .int x1)] [] S
  refine q_aload_n 0 rfl rfl dX10_input_0 ?_
  refine q_getR (q_sh0 w) (by decide) (by decide) rfl lfX10_64 dX10_input_1 (r := 89) (q_wr0_8 w) ?_
  refine q_iload_n 1 rfl rfl dX10_input_4 ?_
  obtain ⟨r1, e2, h⟩ := q_bind h
  refine q_callV (ci := 6) (d := 0) (Mc := mX6_addInput) (kc := 0) (nc := 0) [.int x1] okX6_addInput (q_sh89 w) (by decide) rfl lmX10_168 inX6_addInput seX6_addInput rfl (Nat.le_of_ble_eq_true rfl) (Nat.le_of_ble_eq_true rfl) (Nat.le_refl _) (Nat.le_refl _) dX10_input_5 (q_L.deep (by decide) (kX6_addInput (Q := fun r S' => r = some (.int (q_b r1.1)) ∧ S' = r1.2) w e2 ⟨rfl, rfl⟩)) (q_kI ?_)
  have fx3 : q_Fx S r1.2 := q_Fx.tr (q_Fx.rf S) (fxX6_addInput e2)
  obtain rfl := Option.some.inj h
  exact q_iret rfl (q_b_nar _) dX10_input_8 hQ
set_option maxRecDepth 20000 in
theorem kX10_run {S : QS} {g : QG} {Q : Option Value → QS → Prop} {pp : Nat} {ps : Nat} {x1 : Int32} {r : Int32 × QS} (w : q_Wire S) (hpp : q_pok pp) (hps : q_pok ps) (aO : q_aO S pp ps) (h : fX10_run S pp ps x1 = some r) (hQ : Q (some (.int r.1)) r.2) : q_M g mX10_run 8 0 0 [.ref 0, .int x1] S Q := by
  unfold fX10_run at h
  show q_L g mX10_run 8 0 0 Q 0 0 0 [(0, .ref 0), (1, .int x1)] [] S
  refine q_aload_n 0 rfl rfl dX10_run_0 ?_
  refine q_getI (q_sh0 w) (by decide) (by decide) rfl lfX10_142 dX10_run_1 ?_
  refine q_if_eq 18 (by decide) dX10_run_4 (fun c => ?_) (fun c => ?_)
  · rw [if_pos c] at h
    refine q_iconst (v := (-1 : Int32)) (by decide) dX10_run_18 ?_
    obtain rfl := Option.some.inj h
    exact q_iret rfl rfl dX10_run_19 hQ
  · rw [if_neg c] at h
    refine q_iload_n 1 rfl rfl dX10_run_7 ?_
    refine q_if_lt 18 (by decide) dX10_run_8 (fun c => ?_) (fun c => ?_)
    · rw [if_pos c] at h
      refine q_iconst (v := (-1 : Int32)) (by decide) dX10_run_18 ?_
      obtain rfl := Option.some.inj h
      exact q_iret rfl rfl dX10_run_19 hQ
    · rw [if_neg c] at h
      refine q_iload_n 1 rfl rfl dX10_run_11 ?_
      refine q_sipush (v := (20000 : Int32)) (by decide) dX10_run_12 ?_
      refine q_icmp_le 20 (by decide) dX10_run_15 (fun c => ?_) (fun c => ?_)
      · rw [if_pos c] at h
        refine q_aload_n 0 rfl rfl dX10_run_20 ?_
        refine q_getR (q_sh0 w) (by decide) (by decide) rfl lfX10_64 dX10_run_21 (r := 89) (q_wr0_8 w) ?_
        refine q_aload_n 0 rfl rfl dX10_run_24 ?_
        refine q_getR (q_sh0 w) (by decide) (by decide) rfl lfX10_68 dX10_run_25 (r := pp) (aO).1 ?_
        refine q_iload_n 1 rfl rfl dX10_run_28 ?_
        obtain ⟨r1, e2, h⟩ := q_bind h
        refine q_callV (ci := 6) (d := 7) (Mc := mX6_outcomeOf) (kc := 0) (nc := 0) [.ref pp, .int x1] okX6_outcomeOf (q_sh89 w) (by decide) rfl lmX10_172 inX6_outcomeOf seX6_outcomeOf rfl (Nat.le_of_ble_eq_true rfl) (Nat.le_of_ble_eq_true rfl) (Nat.le_refl _) (Nat.le_refl _) dX10_run_29 (q_L.deep (by decide) (kX6_outcomeOf (Q := fun r S' => r = some (.int r1.1) ∧ S' = r1.2) w hpp e2 ⟨rfl, rfl⟩)) (q_kI ?_)
        obtain rfl := Option.some.inj h
        exact q_iret rfl rfl dX10_run_32 hQ
      · rw [if_neg c] at h
        refine q_iconst (v := (-1 : Int32)) (by decide) dX10_run_18 ?_
        obtain rfl := Option.some.inj h
        exact q_iret rfl rfl dX10_run_19 hQ
set_option maxRecDepth 20000 in
theorem kX10_steps {S : QS} {g : QG} {Q : Option Value → QS → Prop}   {r : Int32} (w : q_Wire S) (h : fX10_steps S = some r) (hQ : Q (some (.int r)) S) : q_M g mX10_steps 0 0 0 [.ref 0] S Q := by
  unfold fX10_steps at h
  show q_L g mX10_steps 0 0 0 Q 0 0 0 [(0, .ref 0)] [] S
  refine q_aload_n 0 rfl rfl dX10_steps_0 ?_
  refine q_getR (q_sh0 w) (by decide) (by decide) rfl lfX10_64 dX10_steps_1 (r := 89) (q_wr0_8 w) ?_
  refine q_getIN (q_sh89 w) (by decide) (by decide) rfl lfX10_176 dX10_steps_4 ?_
  obtain rfl := Option.some.inj h
  exact q_iret rfl rfl dX10_steps_7 hQ
set_option maxRecDepth 20000 in
theorem kX10_place {S : QS} {g : QG} {Q : Option Value → QS → Prop}   {r : Int32} (w : q_Wire S) (h : fX10_place S = some r) (hQ : Q (some (.int r)) S) : q_M g mX10_place 0 0 0 [.ref 0] S Q := by
  unfold fX10_place at h
  show q_L g mX10_place 0 0 0 Q 0 0 0 [(0, .ref 0)] [] S
  refine q_aload_n 0 rfl rfl dX10_place_0 ?_
  refine q_getR (q_sh0 w) (by decide) (by decide) rfl lfX10_64 dX10_place_1 (r := 89) (q_wr0_8 w) ?_
  refine q_getIN (q_sh89 w) (by decide) (by decide) rfl lfX10_179 dX10_place_4 ?_
  obtain rfl := Option.some.inj h
  exact q_iret rfl rfl dX10_place_7 hQ
set_option maxRecDepth 20000 in
theorem kX10_thrown {S : QS} {g : QG} {Q : Option Value → QS → Prop}   {r : Int32} (w : q_Wire S) (h : fX10_thrown S = some r) (hQ : Q (some (.int r)) S) : q_M g mX10_thrown 0 0 0 [.ref 0] S Q := by
  unfold fX10_thrown at h
  show q_L g mX10_thrown 0 0 0 Q 0 0 0 [(0, .ref 0)] [] S
  refine q_aload_n 0 rfl rfl dX10_thrown_0 ?_
  refine q_getR (q_sh0 w) (by decide) (by decide) rfl lfX10_64 dX10_thrown_1 (r := 89) (q_wr0_8 w) ?_
  refine q_getIN (q_sh89 w) (by decide) (by decide) rfl lfX10_182 dX10_thrown_4 ?_
  obtain rfl := Option.some.inj h
  exact q_iret rfl rfl dX10_thrown_7 hQ
set_option maxRecDepth 20000 in
theorem kX10_made {S : QS} {g : QG} {Q : Option Value → QS → Prop}  {x1 : Int32} {r : Int32} (w : q_Wire S) (h : fX10_made S x1 = some r) (hQ : Q (some (.int r)) S) : q_M g mX10_made 0 0 0 [.ref 0, .int x1] S Q := by
  unfold fX10_made at h
  show q_L g mX10_made 0 0 0 Q 0 0 0 [(0, .ref 0), (1, .int x1)] [] S
  refine q_iload_n 1 rfl rfl dX10_made_0 ?_
  by_cases c1 : x1 = (0 : Int32)
  · rw [if_pos c1] at h
    refine q_lookup (M := mX10_made) (pc := 1) (x := x1) 28 (by decide) (by rw [c1] <;> rfl) (by decide) dX10_made_1 ?_
    refine q_aload_n 0 rfl rfl dX10_made_28 ?_
    refine q_getR (q_sh0 w) (by decide) (by decide) rfl lfX10_64 dX10_made_29 (r := 89) (q_wr0_8 w) ?_
    refine q_getRN (q_sh89 w) (by decide) (by decide) rfl lfX10_185 dX10_made_32 (r := 90) (q_wr89_2 w) ?_
    refine q_getIN (q_sh90 w) (by decide) (by decide) rfl lfX10_189 dX10_made_35 ?_
    obtain rfl := Option.some.inj h
    exact q_iret rfl rfl dX10_made_38 hQ
  rw [if_neg c1] at h
  by_cases c2 : x1 = (1 : Int32)
  · rw [if_pos c2] at h
    refine q_lookup (M := mX10_made) (pc := 1) (x := x1) 39 (by decide) (by rw [c2] <;> rfl) (by decide) dX10_made_1 ?_
    refine q_aload_n 0 rfl rfl dX10_made_39 ?_
    refine q_getR (q_sh0 w) (by decide) (by decide) rfl lfX10_64 dX10_made_40 (r := 89) (q_wr0_8 w) ?_
    refine q_getRN (q_sh89 w) (by decide) (by decide) rfl lfX10_185 dX10_made_43 (r := 90) (q_wr89_2 w) ?_
    refine q_getIN (q_sh90 w) (by decide) (by decide) rfl lfX10_194 dX10_made_46 ?_
    obtain rfl := Option.some.inj h
    exact q_iret rfl rfl dX10_made_49 hQ
  rw [if_neg c2] at h
  refine q_lookup (M := mX10_made) (pc := 1) (x := x1) (off := 49) 50 (by decide) (by rw [lv_osw c1 (by decide), lv_osw c2 (by decide)] <;> rfl) (by decide) dX10_made_1 ?_
  refine q_iconst (v := (-1 : Int32)) (by decide) dX10_made_50 ?_
  obtain rfl := Option.some.inj h
  exact q_iret rfl rfl dX10_made_51 hQ
set_option maxRecDepth 20000 in
theorem kX10_written {S : QS} {g : QG} {Q : Option Value → QS → Prop}   {r : Int32} (w : q_Wire S) (h : fX10_written S = some r) (hQ : Q (some (.int r)) S) : q_M g mX10_written 0 0 0 [.ref 0] S Q := by
  unfold fX10_written at h
  show q_L g mX10_written 0 0 0 Q 0 0 0 [(0, .ref 0)] [] S
  refine q_aload_n 0 rfl rfl dX10_written_0 ?_
  refine q_getR (q_sh0 w) (by decide) (by decide) rfl lfX10_64 dX10_written_1 (r := 89) (q_wr0_8 w) ?_
  refine q_getIN (q_sh89 w) (by decide) (by decide) rfl lfX10_197 dX10_written_4 ?_
  obtain rfl := Option.some.inj h
  exact q_iret rfl rfl dX10_written_7 hQ
set_option maxRecDepth 20000 in
theorem kX10_out {S : QS} {g : QG} {Q : Option Value → QS → Prop}  {x1 : Int32} {r : Int32} (w : q_Wire S) (h : fX10_out S x1 = some r) (hQ : Q (some (.int r)) S) : q_M g mX10_out 0 0 0 [.ref 0, .int x1] S Q := by
  unfold fX10_out at h
  show q_L g mX10_out 0 0 0 Q 0 0 0 [(0, .ref 0), (1, .int x1)] [] S
  refine q_iload_n 1 rfl rfl dX10_out_0 ?_
  refine q_if_lt 22 (by decide) dX10_out_1 (fun c => ?_) (fun c => ?_)
  · rw [if_pos c] at h
    refine q_iconst (v := (0 : Int32)) (by decide) dX10_out_22 ?_
    obtain rfl := Option.some.inj h
    exact q_iret rfl rfl dX10_out_23 hQ
  · rw [if_neg c] at h
    refine q_iload_n 1 rfl rfl dX10_out_4 ?_
    refine q_aload_n 0 rfl rfl dX10_out_5 ?_
    refine q_getR (q_sh0 w) (by decide) (by decide) rfl lfX10_64 dX10_out_6 (r := 89) (q_wr0_8 w) ?_
    refine q_getIN (q_sh89 w) (by decide) (by decide) rfl lfX10_197 dX10_out_9 ?_
    refine q_icmp_ge 22 (by decide) dX10_out_12 (fun c => ?_) (fun c => ?_)
    · rw [if_pos c] at h
      refine q_iconst (v := (0 : Int32)) (by decide) dX10_out_22 ?_
      obtain rfl := Option.some.inj h
      exact q_iret rfl rfl dX10_out_23 hQ
    · rw [if_neg c] at h
      refine q_iload_n 1 rfl rfl dX10_out_15 ?_
      refine q_sipush (v := (256 : Int32)) (by decide) dX10_out_16 ?_
      refine q_icmp_lt 24 (by decide) dX10_out_19 (fun c => ?_) (fun c => ?_)
      · rw [if_pos c] at h
        refine q_aload_n 0 rfl rfl dX10_out_24 ?_
        refine q_getR (q_sh0 w) (by decide) (by decide) rfl lfX10_64 dX10_out_25 (r := 89) (q_wr0_8 w) ?_
        refine q_getRN (q_sh89 w) (by decide) (by decide) rfl lfX10_200 dX10_out_28 (r := 101) (q_wr89_13 w) ?_
        refine q_iload_n 1 rfl rfl dX10_out_31 ?_
        obtain ⟨hg1, h⟩ := q_guard h
        refine q_iald (q_sh101 w) (q_inb_in hg1) dX10_out_32 ?_
        obtain rfl := Option.some.inj h
        exact q_iret rfl rfl dX10_out_33 hQ
      · rw [if_neg c] at h
        refine q_iconst (v := (0 : Int32)) (by decide) dX10_out_22 ?_
        obtain rfl := Option.some.inj h
        exact q_iret rfl rfl dX10_out_23 hQ
set_option maxRecDepth 20000 in
theorem kX10_strays {S : QS} {g : QG} {Q : Option Value → QS → Prop}   {r : Int32} (w : q_Wire S) (h : fX10_strays S = some r) (hQ : Q (some (.int r)) S) : q_M g mX10_strays 0 0 0 [.ref 0] S Q := by
  unfold fX10_strays at h
  show q_L g mX10_strays 0 0 0 Q 0 0 0 [(0, .ref 0)] [] S
  refine q_aload_n 0 rfl rfl dX10_strays_0 ?_
  refine q_getR (q_sh0 w) (by decide) (by decide) rfl lfX10_64 dX10_strays_1 (r := 89) (q_wr0_8 w) ?_
  refine q_getIN (q_sh89 w) (by decide) (by decide) rfl lfX10_203 dX10_strays_4 ?_
  obtain rfl := Option.some.inj h
  exact q_iret rfl rfl dX10_strays_7 hQ
