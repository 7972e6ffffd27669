set_option maxRecDepth 20000 in
theorem kX1_begin {S : QS} {g : QG} {Q : Option Value → QS → Prop} {p : Nat}  {r : QS} (w : q_Wire S) (hp : q_pok p) (h : fX1_begin S p = some r) (hQ : Q none r) : q_M g mX1_begin 0 0 0 [.ref (p + 10)] S Q := by
  unfold fX1_begin at h
  show q_L g mX1_begin 0 0 0 Q 0 0 0 [(0, .ref (p + 10))] [] S
  refine q_aload_n 0 rfl rfl dX1_begin_0 ?_
  refine q_iconst (v := (0 : Int32)) (by decide) dX1_begin_1 ?_
  refine q_putI (q_shP10 w hp) (by decide) (by decide) rfl rfl ⟨rfl, rfl⟩ lfX1_45 dX1_begin_2 ?_
  obtain ⟨S1, e2, h⟩ := q_bindS h
  refine q_st e2 ?_
  have fx3 : q_Fx S S1 := e2 ▸ q_Fx.sI (q_Fx.rf S)
  refine q_aload_n 0 rfl rfl dX1_begin_5 ?_
  refine q_iconst (v := (0 : Int32)) (by decide) dX1_begin_6 ?_
  refine q_putI (q_shP10 (w.fx fx3) hp) (by decide) (by decide) rfl rfl ⟨rfl, rfl⟩ lfX1_49 dX1_begin_7 ?_
  obtain ⟨S4, e5, h⟩ := q_bindS h
  refine q_st e5 ?_
  have fx6 : q_Fx S S4 := e5 ▸ q_Fx.sI (fx3)
  refine q_aload_n 0 rfl rfl dX1_begin_10 ?_
  refine q_iconst (v := (0 : Int32)) (by decide) dX1_begin_11 ?_
  refine q_putI (q_shP10 (w.fx fx6) hp) (by decide) (by decide) rfl rfl ⟨rfl, rfl⟩ lfX1_52 dX1_begin_12 ?_
  obtain ⟨S7, e8, h⟩ := q_bindS h
  refine q_st e8 ?_
  have fx9 : q_Fx S S7 := e8 ▸ q_Fx.sI (fx6)
  obtain rfl := Option.some.inj h
  exact q_vret rfl dX1_begin_15 hQ
set_option maxRecDepth 20000 in
theorem kX1_isMaking {S : QS} {g : QG} {Q : Option Value → QS → Prop}  {x0 : Int32} {r : Bool} (w : q_Wire S) (h : fX1_isMaking S x0 = some r) (hQ : Q (some (.int (q_b r))) S) : q_M g mX1_isMaking 0 0 0 [.int x0] S Q := by
  unfold fX1_isMaking at h
  show q_L g mX1_isMaking 0 0 0 Q 0 0 0 [(0, .int x0)] [] S
  refine q_iload_n 0 rfl rfl dX1_isMaking_0 ?_
  refine q_bipush (v := (30 : Int32)) (by decide) dX1_isMaking_1 ?_
  refine q_icmp_eq 12 (by decide) dX1_isMaking_3 (fun c => ?_) (fun c => ?_)
  · rw [if_pos c] at h
    refine q_iconst (v := (1 : Int32)) (by decide) dX1_isMaking_12 ?_
    refine q_goto 17 (by decide) dX1_isMaking_13 ?_
    obtain rfl := Option.some.inj h
    exact q_iret rfl (by decide) dX1_isMaking_17 hQ
  · rw [if_neg c] at h
    refine q_iload_n 0 rfl rfl dX1_isMaking_6 ?_
    refine q_bipush (v := (31 : Int32)) (by decide) dX1_isMaking_7 ?_
    refine q_icmp_ne 16 (by decide) dX1_isMaking_9 (fun c => ?_) (fun c => ?_)
    · rw [if_neg c] at h
      refine q_iconst (v := (0 : Int32)) (by decide) dX1_isMaking_16 ?_
      obtain rfl := Option.some.inj h
      exact q_iret rfl (by decide) dX1_isMaking_17 hQ
    · rw [if_pos c] at h
      refine q_iconst (v := (1 : Int32)) (by decide) dX1_isMaking_12 ?_
      refine q_goto 17 (by decide) dX1_isMaking_13 ?_
      obtain rfl := Option.some.inj h
      exact q_iret rfl (by decide) dX1_isMaking_17 hQ
set_option maxRecDepth 20000 in
theorem kX1_addInstruction {S : QS} {g : QG} {Q : Option Value → QS → Prop} {p : Nat} {x1 : Int32} {x2 : Int32} {x3 : Int32} {r : QS} (w : q_Wire S) (hp : q_pok p) (h : fX1_addInstruction S p x1 x2 x3 = some r) (hQ : Q none r) : q_M g mX1_addInstruction 1 0 0 [.ref (p + 10), .int x1, .int x2, .int x3] S Q := by
  unfold fX1_addInstruction at h
  show q_L g mX1_addInstruction 1 0 0 Q 0 0 0 [(0, .ref (p + 10)), (1, .int x1), (2, .int x2), (3, .int x3)] [] S
  refine q_aload_n 0 rfl rfl dX1_addInstruction_0 ?_
  refine q_getI (q_shP10 w hp) (by decide) (by decide) rfl lfX1_45 dX1_addInstruction_1 ?_
  refine q_sipush (v := (1024 : Int32)) (by decide) dX1_addInstruction_4 ?_
  refine q_icmp_ge 114 (by decide) dX1_addInstruction_7 (fun c => ?_) (fun c => ?_)
  · rw [if_pos c] at h
    obtain rfl := Option.some.inj h
    exact q_vret rfl dX1_addInstruction_114 hQ
  · rw [if_neg c] at h
    refine q_aload_n 0 rfl rfl dX1_addInstruction_10 ?_
    refine q_getR (q_shP10 w hp) (by decide) (by decide) rfl lfX1_9 dX1_addInstruction_11 (r := (p + 11)) (q_wrP10_1 w hp) ?_
    refine q_aload_n 0 rfl rfl dX1_addInstruction_14 ?_
    refine q_getI (q_shP10 w hp) (by decide) (by decide) rfl lfX1_45 dX1_addInstruction_15 ?_
    refine q_iload_n 1 rfl rfl dX1_addInstruction_18 ?_
    obtain ⟨hg1, h⟩ := q_guard h
    refine q_iast (q_shP11 w hp) (q_inb_in hg1) dX1_addInstruction_19 ?_
    obtain ⟨S2, e3, h⟩ := q_bindS h
    refine q_st e3 ?_
    have fx4 : q_Fx S S2 := e3 ▸ q_Fx.sI (q_Fx.rf S)
    refine q_aload_n 0 rfl rfl dX1_addInstruction_20 ?_
    refine q_getR (q_shP10 (w.fx fx4) hp) (by decide) (by decide) rfl lfX1_15 dX1_addInstruction_21 (r := (p + 12)) (q_wrP10_2 (w.fx fx4) hp) ?_
    refine q_aload_n 0 rfl rfl dX1_addInstruction_24 ?_
    refine q_getI (q_shP10 (w.fx fx4) hp) (by decide) (by decide) rfl lfX1_45 dX1_addInstruction_25 ?_
    refine q_iconst (v := (0 : Int32)) (by decide) dX1_addInstruction_28 ?_
    obtain ⟨hg5, h⟩ := q_guard h
    refine q_iast (q_shP12 (w.fx fx4) hp) (q_inb_in hg5) dX1_addInstruction_29 ?_
    obtain ⟨S6, e7, h⟩ := q_bindS h
    refine q_st e7 ?_
    have fx8 : q_Fx S S6 := e7 ▸ q_Fx.sI (fx4)
    refine q_aload_n 0 rfl rfl dX1_addInstruction_30 ?_
    refine q_getR (q_shP10 (w.fx fx8) hp) (by decide) (by decide) rfl lfX1_18 dX1_addInstruction_31 (r := (p + 13)) (q_wrP10_3 (w.fx fx8) hp) ?_
    refine q_aload_n 0 rfl rfl dX1_addInstruction_34 ?_
    refine q_getI (q_shP10 (w.fx fx8) hp) (by decide) (by decide) rfl lfX1_45 dX1_addInstruction_35 ?_
    refine q_iconst (v := (0 : Int32)) (by decide) dX1_addInstruction_38 ?_
    obtain ⟨hg9, h⟩ := q_guard h
    refine q_iast (q_shP13 (w.fx fx8) hp) (q_inb_in hg9) dX1_addInstruction_39 ?_
    obtain ⟨S10, e11, h⟩ := q_bindS h
    refine q_st e11 ?_
    have fx12 : q_Fx S S10 := e11 ▸ q_Fx.sI (fx8)
    refine q_aload_n 0 rfl rfl dX1_addInstruction_40 ?_
    refine q_getR (q_shP10 (w.fx fx12) hp) (by decide) (by decide) rfl lfX1_21 dX1_addInstruction_41 (r := (p + 14)) (q_wrP10_4 (w.fx fx12) hp) ?_
    refine q_aload_n 0 rfl rfl dX1_addInstruction_44 ?_
    refine q_getI (q_shP10 (w.fx fx12) hp) (by decide) (by decide) rfl lfX1_45 dX1_addInstruction_45 ?_
    refine q_iload_n 2 rfl rfl dX1_addInstruction_48 ?_
    obtain ⟨hg13, h⟩ := q_guard h
    refine q_iast (q_shP14 (w.fx fx12) hp) (q_inb_in hg13) dX1_addInstruction_49 ?_
    obtain ⟨S14, e15, h⟩ := q_bindS h
    refine q_st e15 ?_
    have fx16 : q_Fx S S14 := e15 ▸ q_Fx.sI (fx12)
    refine q_aload_n 0 rfl rfl dX1_addInstruction_50 ?_
    refine q_getR (q_shP10 (w.fx fx16) hp) (by decide) (by decide) rfl lfX1_24 dX1_addInstruction_51 (r := (p + 15)) (q_wrP10_5 (w.fx fx16) hp) ?_
    refine q_aload_n 0 rfl rfl dX1_addInstruction_54 ?_
    refine q_getI (q_shP10 (w.fx fx16) hp) (by decide) (by decide) rfl lfX1_45 dX1_addInstruction_55 ?_
    refine q_iload_n 3 rfl rfl dX1_addInstruction_58 ?_
    obtain ⟨hg17, h⟩ := q_guard h
    refine q_iast (q_shP15 (w.fx fx16) hp) (q_inb_in hg17) dX1_addInstruction_59 ?_
    obtain ⟨S18, e19, h⟩ := q_bindS h
    refine q_st e19 ?_
    have fx20 : q_Fx S S18 := e19 ▸ q_Fx.sI (fx16)
    refine q_aload_n 0 rfl rfl dX1_addInstruction_60 ?_
    refine q_getR (q_shP10 (w.fx fx20) hp) (by decide) (by decide) rfl lfX1_30 dX1_addInstruction_61 (r := (p + 17)) (q_wrP10_7 (w.fx fx20) hp) ?_
    refine q_aload_n 0 rfl rfl dX1_addInstruction_64 ?_
    refine q_getI (q_shP10 (w.fx fx20) hp) (by decide) (by decide) rfl lfX1_45 dX1_addInstruction_65 ?_
    refine q_iconst (v := (-1 : Int32)) (by decide) dX1_addInstruction_68 ?_
    obtain ⟨hg21, h⟩ := q_guard h
    refine q_iast (q_shP17 (w.fx fx20) hp) (q_inb_in hg21) dX1_addInstruction_69 ?_
    obtain ⟨S22, e23, h⟩ := q_bindS h
    refine q_st e23 ?_
    have fx24 : q_Fx S S22 := e23 ▸ q_Fx.sI (fx20)
    refine q_aload_n 0 rfl rfl dX1_addInstruction_70 ?_
    refine q_getR (q_shP10 (w.fx fx24) hp) (by decide) (by decide) rfl lfX1_27 dX1_addInstruction_71 (r := (p + 16)) (q_wrP10_6 (w.fx fx24) hp) ?_
    refine q_aload_n 0 rfl rfl dX1_addInstruction_74 ?_
    refine q_getI (q_shP10 (w.fx fx24) hp) (by decide) (by decide) rfl lfX1_45 dX1_addInstruction_75 ?_
    refine q_aload_n 0 rfl rfl dX1_addInstruction_78 ?_
    refine q_getI (q_shP10 (w.fx fx24) hp) (by decide) (by decide) rfl lfX1_49 dX1_addInstruction_79 ?_
    obtain ⟨hg25, h⟩ := q_guard h
    refine q_iast (q_shP16 (w.fx fx24) hp) (q_inb_in hg25) dX1_addInstruction_82 ?_
    obtain ⟨S26, e27, h⟩ := q_bindS h
    refine q_st e27 ?_
    have fx28 : q_Fx S S26 := e27 ▸ q_Fx.sI (fx24)
    refine q_aload_n 0 rfl rfl dX1_addInstruction_83 ?_
    refine q_dup rfl dX1_addInstruction_84 ?_
    refine q_getI (q_shP10 (w.fx fx28) hp) (by decide) (by decide) rfl lfX1_49 dX1_addInstruction_85 ?_
    refine q_iload_n 1 rfl rfl dX1_addInstruction_88 ?_
    obtain ⟨r29, e30, h⟩ := q_bind h
    refine q_callS (d := 0) (Mc := mX1_isMaking) (kc := 0) (nc := 0) [.int x1] okX1_isMaking lmX1_55 inX1_isMaking rfl (Nat.le_of_ble_eq_true rfl) (Nat.le_of_ble_eq_true rfl) (Nat.le_refl _) (Nat.le_refl _) dX1_addInstruction_89 (q_L.deep (by decide) (kX1_isMaking (Q := fun r S' => r = some (.int (q_b r29)) ∧ S' = S26) (w.fx fx28) e30 ⟨rfl, rfl⟩)) (q_kI ?_)
    obtain ⟨v31, hv, h⟩ := q_bind h
    have K1 : q_L g mX1_addInstruction 1 0 0 Q 0 0 100 [(0, .ref (p + 10))] [.int (q_b v31), .int (S26.2.1 (p + 10) 8), .ref (p + 10)] S26 := by
      refine q_iadd dX1_addInstruction_100 ?_
      refine q_putI (q_shP10 (w.fx fx28) hp) (by decide) (by decide) rfl rfl ⟨rfl, rfl⟩ lfX1_49 dX1_addInstruction_101 ?_
      obtain ⟨S32, e33, h⟩ := q_bindS h
      refine q_st e33 ?_
      have fx34 : q_Fx S S32 := e33 ▸ q_Fx.sI (fx28)
      refine q_aload_n 0 rfl rfl dX1_addInstruction_104 ?_
      refine q_dup rfl dX1_addInstruction_105 ?_
      refine q_getI (q_shP10 (w.fx fx34) hp) (by decide) (by decide) rfl lfX1_45 dX1_addInstruction_106 ?_
      refine q_iconst (v := (1 : Int32)) (by decide) dX1_addInstruction_109 ?_
      refine q_iadd dX1_addInstruction_110 ?_
      refine q_putI (q_shP10 (w.fx fx34) hp) (by decide) (by decide) rfl rfl ⟨rfl, rfl⟩ lfX1_45 dX1_addInstruction_111 ?_
      obtain ⟨S35, e36, h⟩ := q_bindS h
      refine q_st e36 ?_
      have fx37 : q_Fx S S35 := e36 ▸ q_Fx.sI (fx34)
      obtain rfl := Option.some.inj h
      exact q_vret rfl dX1_addInstruction_114 hQ
    replace h := hv
    refine q_if_eq 99 (by decide) dX1_addInstruction_92 (fun c => ?_) (fun c => ?_)
    · have c := q_b_0.mp c; rw [q_if0 c] at h
      refine q_iconst (v := (0 : Int32)) (by decide) dX1_addInstruction_99 ?_
      obtain rfl := Option.some.inj h
      refine q_sub [0] rfl ?_
      exact K1
    · have c := q_b_n.mp c; rw [q_if1 c] at h
      refine q_iconst (v := (1 : Int32)) (by decide) dX1_addInstruction_95 ?_
      refine q_goto 100 (by decide) dX1_addInstruction_96 ?_
      obtain rfl := Option.some.inj h
      refine q_sub [0] rfl ?_
      exact K1
set_option maxRecDepth 20000 in
theorem kX1_addCatch {S : QS} {g : QG} {Q : Option Value → QS → Prop} {p : Nat} {x1 : Int32} {x2 : Int32} {x3 : Int32} {x4 : Int32} {r : QS} (w : q_Wire S) (hp : q_pok p) (h : fX1_addCatch S p x1 x2 x3 x4 = some r) (hQ : Q none r) : q_M g mX1_addCatch 0 0 0 [.ref (p + 10), .int x1, .int x2, .int x3, .int x4] S Q := by
  unfold fX1_addCatch at h
  show q_L g mX1_addCatch 0 0 0 Q 0 0 0 [(0, .ref (p + 10)), (1, .int x1), (2, .int x2), (3, .int x3), (4, .int x4)] [] S
  refine q_aload_n 0 rfl rfl dX1_addCatch_0 ?_
  refine q_getI (q_shP10 w hp) (by decide) (by decide) rfl lfX1_52 dX1_addCatch_1 ?_
  refine q_bipush (v := (64 : Int32)) (by decide) dX1_addCatch_4 ?_
  refine q_icmp_ge 60 (by decide) dX1_addCatch_6 (fun c => ?_) (fun c => ?_)
  · rw [if_pos c] at h
    obtain rfl := Option.some.inj h
    exact q_vret rfl dX1_addCatch_60 hQ
  · rw [if_neg c] at h
    refine q_aload_n 0 rfl rfl dX1_addCatch_9 ?_
    refine q_getR (q_shP10 w hp) (by decide) (by decide) rfl lfX1_33 dX1_addCatch_10 (r := (p + 18)) (q_wrP10_10 w hp) ?_
    refine q_aload_n 0 rfl rfl dX1_addCatch_13 ?_
    refine q_getI (q_shP10 w hp) (by decide) (by decide) rfl lfX1_52 dX1_addCatch_14 ?_
    refine q_iload_n 1 rfl rfl dX1_addCatch_17 ?_
    obtain ⟨hg1, h⟩ := q_guard h
    refine q_iast (q_shP18 w hp) (q_inb_in hg1) dX1_addCatch_18 ?_
    obtain ⟨S2, e3, h⟩ := q_bindS h
    refine q_st e3 ?_
    have fx4 : q_Fx S S2 := e3 ▸ q_Fx.sI (q_Fx.rf S)
    refine q_aload_n 0 rfl rfl dX1_addCatch_19 ?_
    refine q_getR (q_shP10 (w.fx fx4) hp) (by decide) (by decide) rfl lfX1_36 dX1_addCatch_20 (r := (p + 19)) (q_wrP10_11 (w.fx fx4) hp) ?_
    refine q_aload_n 0 rfl rfl dX1_addCatch_23 ?_
    refine q_getI (q_shP10 (w.fx fx4) hp) (by decide) (by decide) rfl lfX1_52 dX1_addCatch_24 ?_
    refine q_iload_n 2 rfl rfl dX1_addCatch_27 ?_
    obtain ⟨hg5, h⟩ := q_guard h
    refine q_iast (q_shP19 (w.fx fx4) hp) (q_inb_in hg5) dX1_addCatch_28 ?_
    obtain ⟨S6, e7, h⟩ := q_bindS h
    refine q_st e7 ?_
    have fx8 : q_Fx S S6 := e7 ▸ q_Fx.sI (fx4)
    refine q_aload_n 0 rfl rfl dX1_addCatch_29 ?_
    refine q_getR (q_shP10 (w.fx fx8) hp) (by decide) (by decide) rfl lfX1_39 dX1_addCatch_30 (r := (p + 20)) (q_wrP10_12 (w.fx fx8) hp) ?_
    refine q_aload_n 0 rfl rfl dX1_addCatch_33 ?_
    refine q_getI (q_shP10 (w.fx fx8) hp) (by decide) (by decide) rfl lfX1_52 dX1_addCatch_34 ?_
    refine q_iload_n 3 rfl rfl dX1_addCatch_37 ?_
    obtain ⟨hg9, h⟩ := q_guard h
    refine q_iast (q_shP20 (w.fx fx8) hp) (q_inb_in hg9) dX1_addCatch_38 ?_
    obtain ⟨S10, e11, h⟩ := q_bindS h
    refine q_st e11 ?_
    have fx12 : q_Fx S S10 := e11 ▸ q_Fx.sI (fx8)
    refine q_aload_n 0 rfl rfl dX1_addCatch_39 ?_
    refine q_getR (q_shP10 (w.fx fx12) hp) (by decide) (by decide) rfl lfX1_42 dX1_addCatch_40 (r := (p + 21)) (q_wrP10_13 (w.fx fx12) hp) ?_
    refine q_aload_n 0 rfl rfl dX1_addCatch_43 ?_
    refine q_getI (q_shP10 (w.fx fx12) hp) (by decide) (by decide) rfl lfX1_52 dX1_addCatch_44 ?_
    refine q_iload 4 rfl dX1_addCatch_47 ?_
    obtain ⟨hg13, h⟩ := q_guard h
    refine q_iast (q_shP21 (w.fx fx12) hp) (q_inb_in hg13) dX1_addCatch_49 ?_
    obtain ⟨S14, e15, h⟩ := q_bindS h
    refine q_st e15 ?_
    have fx16 : q_Fx S S14 := e15 ▸ q_Fx.sI (fx12)
    refine q_aload_n 0 rfl rfl dX1_addCatch_50 ?_
    refine q_dup rfl dX1_addCatch_51 ?_
    refine q_getI (q_shP10 (w.fx fx16) hp) (by decide) (by decide) rfl lfX1_52 dX1_addCatch_52 ?_
    refine q_iconst (v := (1 : Int32)) (by decide) dX1_addCatch_55 ?_
    refine q_iadd dX1_addCatch_56 ?_
    refine q_putI (q_shP10 (w.fx fx16) hp) (by decide) (by decide) rfl rfl ⟨rfl, rfl⟩ lfX1_52 dX1_addCatch_57 ?_
    obtain ⟨S17, e18, h⟩ := q_bindS h
    refine q_st e18 ?_
    have fx19 : q_Fx S S17 := e18 ▸ q_Fx.sI (fx16)
    obtain rfl := Option.some.inj h
    exact q_vret rfl dX1_addCatch_60 hQ
set_option maxRecDepth 20000 in
theorem kX1_goesOn {S : QS} {g : QG} {Q : Option Value → QS → Prop}  {x0 : Int32} {r : Bool} (w : q_Wire S) (h : fX1_goesOn S x0 = some r) (hQ : Q (some (.int (q_b r))) S) : q_M g mX1_goesOn 0 0 0 [.int x0] S Q := by
  unfold fX1_goesOn at h
  show q_L g mX1_goesOn 0 0 0 Q 0 0 0 [(0, .int x0)] [] S
  refine q_iload_n 0 rfl rfl dX1_goesOn_0 ?_
  refine q_bipush (v := (19 : Int32)) (by decide) dX1_goesOn_1 ?_
  refine q_icmp_eq 28 (by decide) dX1_goesOn_3 (fun c => ?_) (fun c => ?_)
  · rw [if_pos c] at h
    refine q_iconst (v := (0 : Int32)) (by decide) dX1_goesOn_28 ?_
    obtain rfl := Option.some.inj h
    exact q_iret rfl (by decide) dX1_goesOn_29 hQ
  · rw [if_neg c] at h
    refine q_iload_n 0 rfl rfl dX1_goesOn_6 ?_
    refine q_bipush (v := (41 : Int32)) (by decide) dX1_goesOn_7 ?_
    refine q_icmp_eq 28 (by decide) dX1_goesOn_9 (fun c => ?_) (fun c => ?_)
    · rw [if_pos c] at h
      refine q_iconst (v := (0 : Int32)) (by decide) dX1_goesOn_28 ?_
      obtain rfl := Option.some.inj h
      exact q_iret rfl (by decide) dX1_goesOn_29 hQ
    · rw [if_neg c] at h
      refine q_iload_n 0 rfl rfl dX1_goesOn_12 ?_
      refine q_bipush (v := (42 : Int32)) (by decide) dX1_goesOn_13 ?_
      refine q_icmp_eq 28 (by decide) dX1_goesOn_15 (fun c => ?_) (fun c => ?_)
      · rw [if_pos c] at h
        refine q_iconst (v := (0 : Int32)) (by decide) dX1_goesOn_28 ?_
        obtain rfl := Option.some.inj h
        exact q_iret rfl (by decide) dX1_goesOn_29 hQ
      · rw [if_neg c] at h
        refine q_iload_n 0 rfl rfl dX1_goesOn_18 ?_
        refine q_bipush (v := (43 : Int32)) (by decide) dX1_goesOn_19 ?_
        refine q_icmp_eq 28 (by decide) dX1_goesOn_21 (fun c => ?_) (fun c => ?_)
        · rw [if_pos c] at h
          refine q_iconst (v := (0 : Int32)) (by decide) dX1_goesOn_28 ?_
          obtain rfl := Option.some.inj h
          exact q_iret rfl (by decide) dX1_goesOn_29 hQ
        · rw [if_neg c] at h
          refine q_iconst (v := (1 : Int32)) (by decide) dX1_goesOn_24 ?_
          refine q_goto 29 (by decide) dX1_goesOn_25 ?_
          obtain rfl := Option.some.inj h
          exact q_iret rfl (by decide) dX1_goesOn_29 hQ
set_option maxRecDepth 20000 in
theorem kX1_goesToLabel {S : QS} {g : QG} {Q : Option Value → QS → Prop}  {x0 : Int32} {r : Bool} (w : q_Wire S) (h : fX1_goesToLabel S x0 = some r) (hQ : Q (some (.int (q_b r))) S) : q_M g mX1_goesToLabel 0 0 0 [.int x0] S Q := by
  unfold fX1_goesToLabel at h
  show q_L g mX1_goesToLabel 0 0 0 Q 0 0 0 [(0, .int x0)] [] S
  refine q_iload_n 0 rfl rfl dX1_goesToLabel_0 ?_
  refine q_bipush (v := (19 : Int32)) (by decide) dX1_goesToLabel_1 ?_
  refine q_icmp_lt 16 (by decide) dX1_goesToLabel_3 (fun c => ?_) (fun c => ?_)
  · rw [if_pos c] at h
    refine q_iconst (v := (0 : Int32)) (by decide) dX1_goesToLabel_16 ?_
    obtain rfl := Option.some.inj h
    exact q_iret rfl (by decide) dX1_goesToLabel_17 hQ
  · rw [if_neg c] at h
    refine q_iload_n 0 rfl rfl dX1_goesToLabel_6 ?_
    refine q_bipush (v := (29 : Int32)) (by decide) dX1_goesToLabel_7 ?_
    refine q_icmp_gt 16 (by decide) dX1_goesToLabel_9 (fun c => ?_) (fun c => ?_)
    · rw [if_pos c] at h
      refine q_iconst (v := (0 : Int32)) (by decide) dX1_goesToLabel_16 ?_
      obtain rfl := Option.some.inj h
      exact q_iret rfl (by decide) dX1_goesToLabel_17 hQ
    · rw [if_neg c] at h
      refine q_iconst (v := (1 : Int32)) (by decide) dX1_goesToLabel_12 ?_
      refine q_goto 17 (by decide) dX1_goesToLabel_13 ?_
      obtain rfl := Option.some.inj h
      exact q_iret rfl (by decide) dX1_goesToLabel_17 hQ
set_option maxRecDepth 20000 in
theorem kX1_isCaught {S : QS} {g : QG} {Q : Option Value → QS → Prop} {p : Nat} {x1 : Int32} {x2 : Int32} {r : Bool} (w : q_Wire S) (hp : q_pok p) (h : fX1_isCaught S p x1 x2 = some r) (hQ : Q (some (.int (q_b r))) S) : q_M g mX1_isCaught 0 0 0 [.ref (p + 10), .int x1, .int x2] S Q := by
  unfold fX1_isCaught at h
  show q_L g mX1_isCaught 0 0 0 Q 0 0 0 [(0, .ref (p + 10)), (1, .int x1), (2, .int x2)] [] S
  refine q_aload_n 0 rfl rfl dX1_isCaught_0 ?_
  refine q_getR (q_shP10 w hp) (by decide) (by decide) rfl lfX1_33 dX1_isCaught_1 (r := (p + 18)) (q_wrP10_10 w hp) ?_
  refine q_iload_n 2 rfl rfl dX1_isCaught_4 ?_
  obtain ⟨hg1, h⟩ := q_guard h
  refine q_iald (q_shP18 w hp) (q_inb_in hg1) dX1_isCaught_5 ?_
  refine q_iload_n 1 rfl rfl dX1_isCaught_6 ?_
  refine q_icmp_gt 24 (by decide) dX1_isCaught_7 (fun c => ?_) (fun c => ?_)
  · rw [if_pos c] at h
    refine q_iconst (v := (0 : Int32)) (by decide) dX1_isCaught_24 ?_
    obtain rfl := Option.some.inj h
    exact q_iret rfl (by decide) dX1_isCaught_25 hQ
  · rw [if_neg c] at h
    refine q_iload_n 1 rfl rfl dX1_isCaught_10 ?_
    refine q_aload_n 0 rfl rfl dX1_isCaught_11 ?_
    refine q_getR (q_shP10 w hp) (by decide) (by decide) rfl lfX1_36 dX1_isCaught_12 (r := (p + 19)) (q_wrP10_11 w hp) ?_
    refine q_iload_n 2 rfl rfl dX1_isCaught_15 ?_
    obtain ⟨hg2, h⟩ := q_guard h
    refine q_iald (q_shP19 w hp) (q_inb_in hg2) dX1_isCaught_16 ?_
    refine q_icmp_ge 24 (by decide) dX1_isCaught_17 (fun c => ?_) (fun c => ?_)
    · rw [if_pos c] at h
      refine q_iconst (v := (0 : Int32)) (by decide) dX1_isCaught_24 ?_
      obtain rfl := Option.some.inj h
      exact q_iret rfl (by decide) dX1_isCaught_25 hQ
    · rw [if_neg c] at h
      refine q_iconst (v := (1 : Int32)) (by decide) dX1_isCaught_20 ?_
      refine q_goto 25 (by decide) dX1_isCaught_21 ?_
      obtain rfl := Option.some.inj h
      exact q_iret rfl (by decide) dX1_isCaught_25 hQ
