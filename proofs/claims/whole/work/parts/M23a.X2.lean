set_option maxRecDepth 20000 in
theorem kX2_begin {S : QS} {g : QG} {Q : Option Value → QS → Prop}   {r : QS} (w : q_Wire S) (h : fX2_begin S = some r) (hQ : Q none r) : q_M g mX2_begin 0 0 0 [.ref 90] S Q := by
  unfold fX2_begin at h
  show q_L g mX2_begin 0 0 0 Q 0 0 0 [(0, .ref 90)] [] S
  refine q_aload_n 0 rfl rfl dX2_begin_0 ?_
  refine q_iconst (v := (0 : Int32)) (by decide) dX2_begin_1 ?_
  refine q_putI (q_sh90 w) (by decide) (by decide) rfl rfl ⟨rfl, rfl⟩ lfX2_27 dX2_begin_2 ?_
  obtain ⟨S1, e2, h⟩ := q_bindS h
  refine q_st e2 ?_
  have fx3 : q_Fx S S1 := e2 ▸ q_Fx.sI (q_Fx.rf S)
  refine q_aload_n 0 rfl rfl dX2_begin_5 ?_
  refine q_iconst (v := (0 : Int32)) (by decide) dX2_begin_6 ?_
  refine q_putI (q_sh90 (w.fx fx3)) (by decide) (by decide) rfl rfl ⟨rfl, rfl⟩ lfX2_31 dX2_begin_7 ?_
  obtain ⟨S4, e5, h⟩ := q_bindS h
  refine q_st e5 ?_
  have fx6 : q_Fx S S4 := e5 ▸ q_Fx.sI (fx3)
  refine q_aload_n 0 rfl rfl dX2_begin_10 ?_
  refine q_getR (q_sh90 (w.fx fx6)) (by decide) (by decide) rfl lfX2_9 dX2_begin_11 (r := 91) (q_wr90_0 (w.fx fx6)) ?_
  refine q_iconst (v := (0 : Int32)) (by decide) dX2_begin_14 ?_
  refine q_bipush (v := (65 : Int32)) (by decide) dX2_begin_15 ?_
  obtain ⟨hg7, h⟩ := q_guard h
  refine q_iast (q_sh91 (w.fx fx6)) (q_inb_in hg7) dX2_begin_17 ?_
  obtain ⟨S8, e9, h⟩ := q_bindS h
  refine q_st e9 ?_
  have fx10 : q_Fx S S8 := e9 ▸ q_Fx.sI (fx6)
  obtain rfl := Option.some.inj h
  exact q_vret rfl dX2_begin_18 hQ
set_option maxRecDepth 20000 in
theorem kX2_make {S : QS} {g : QG} {Q : Option Value → QS → Prop}  {x1 : Int32} {x2 : Int32} {x3 : Int32} {r : Int32 × QS} (w : q_Wire S) (h : fX2_make S x1 x2 x3 = some r) (hQ : Q (some (.int r.1)) r.2) : q_M g mX2_make 2 0 0 [.ref 90, .int x1, .int x2, .int x3] S Q := by
  unfold fX2_make at h
  show q_L g mX2_make 2 0 0 Q 0 0 0 [(0, .ref 90), (1, .int x1), (2, .int x2), (3, .int x3)] [] S
  refine q_aload_n 0 rfl rfl dX2_make_0 ?_
  refine q_getI (q_sh90 w) (by decide) (by decide) rfl lfX2_27 dX2_make_1 ?_
  refine q_sipush (v := (2000 : Int32)) (by decide) dX2_make_4 ?_
  refine q_icmp_eq 26 (by decide) dX2_make_7 (fun c => ?_) (fun c => ?_)
  · rw [if_pos c] at h
    refine q_iconst (v := (0 : Int32)) (by decide) dX2_make_26 ?_
    obtain rfl := Option.some.inj h
    exact q_iret rfl rfl dX2_make_27 hQ
  · rw [if_neg c] at h
    refine q_iload_n 2 rfl rfl dX2_make_10 ?_
    refine q_if_lt 26 (by decide) dX2_make_11 (fun c => ?_) (fun c => ?_)
    · rw [if_pos c] at h
      refine q_iconst (v := (0 : Int32)) (by decide) dX2_make_26 ?_
      obtain rfl := Option.some.inj h
      exact q_iret rfl rfl dX2_make_27 hQ
    · rw [if_neg c] at h
      refine q_iload_n 2 rfl rfl dX2_make_14 ?_
      refine q_sipush (v := (12000 : Int32)) (by decide) dX2_make_15 ?_
      refine q_aload_n 0 rfl rfl dX2_make_18 ?_
      refine q_getI (q_sh90 w) (by decide) (by decide) rfl lfX2_31 dX2_make_19 ?_
      refine q_isub dX2_make_22 ?_
      refine q_icmp_le 28 (by decide) dX2_make_23 (fun c => ?_) (fun c => ?_)
      · rw [if_pos c] at h
        refine q_aload_n 0 rfl rfl dX2_make_28 ?_
        refine q_dup rfl dX2_make_29 ?_
        refine q_getI (q_sh90 w) (by decide) (by decide) rfl lfX2_27 dX2_make_30 ?_
        refine q_iconst (v := (1 : Int32)) (by decide) dX2_make_33 ?_
        refine q_iadd dX2_make_34 ?_
        refine q_putI (q_sh90 w) (by decide) (by decide) rfl rfl ⟨rfl, rfl⟩ lfX2_27 dX2_make_35 ?_
        obtain ⟨S1, e2, h⟩ := q_bindS h
        refine q_st e2 ?_
        have fx3 : q_Fx S S1 := e2 ▸ q_Fx.sI (q_Fx.rf S)
        refine q_aload_n 0 rfl rfl dX2_make_38 ?_
        refine q_getR (q_sh90 (w.fx fx3)) (by decide) (by decide) rfl lfX2_9 dX2_make_39 (r := 91) (q_wr90_0 (w.fx fx3)) ?_
        refine q_aload_n 0 rfl rfl dX2_make_42 ?_
        refine q_getI (q_sh90 (w.fx fx3)) (by decide) (by decide) rfl lfX2_27 dX2_make_43 ?_
        refine q_iload_n 1 rfl rfl dX2_make_46 ?_
        obtain ⟨hg4, h⟩ := q_guard h
        refine q_iast (q_sh91 (w.fx fx3)) (q_inb_in hg4) dX2_make_47 ?_
        obtain ⟨S5, e6, h⟩ := q_bindS h
        refine q_st e6 ?_
        have fx7 : q_Fx S S5 := e6 ▸ q_Fx.sI (fx3)
        refine q_aload_n 0 rfl rfl dX2_make_48 ?_
        refine q_getR (q_sh90 (w.fx fx7)) (by decide) (by decide) rfl lfX2_15 dX2_make_49 (r := 92) (q_wr90_1 (w.fx fx7)) ?_
        refine q_aload_n 0 rfl rfl dX2_make_52 ?_
        refine q_getI (q_sh90 (w.fx fx7)) (by decide) (by decide) rfl lfX2_27 dX2_make_53 ?_
        refine q_aload_n 0 rfl rfl dX2_make_56 ?_
        refine q_getI (q_sh90 (w.fx fx7)) (by decide) (by decide) rfl lfX2_31 dX2_make_57 ?_
        obtain ⟨hg8, h⟩ := q_guard h
        refine q_iast (q_sh92 (w.fx fx7)) (q_inb_in hg8) dX2_make_60 ?_
        obtain ⟨S9, e10, h⟩ := q_bindS h
        refine q_st e10 ?_
        have fx11 : q_Fx S S9 := e10 ▸ q_Fx.sI (fx7)
        refine q_aload_n 0 rfl rfl dX2_make_61 ?_
        refine q_getR (q_sh90 (w.fx fx11)) (by decide) (by decide) rfl lfX2_18 dX2_make_62 (r := 93) (q_wr90_2 (w.fx fx11)) ?_
        refine q_aload_n 0 rfl rfl dX2_make_65 ?_
        refine q_getI (q_sh90 (w.fx fx11)) (by decide) (by decide) rfl lfX2_27 dX2_make_66 ?_
        refine q_iload_n 2 rfl rfl dX2_make_69 ?_
        obtain ⟨hg12, h⟩ := q_guard h
        refine q_iast (q_sh93 (w.fx fx11)) (q_inb_in hg12) dX2_make_70 ?_
        obtain ⟨S13, e14, h⟩ := q_bindS h
        refine q_st e14 ?_
        have fx15 : q_Fx S S13 := e14 ▸ q_Fx.sI (fx11)
        refine q_aload_n 0 rfl rfl dX2_make_71 ?_
        refine q_getR (q_sh90 (w.fx fx15)) (by decide) (by decide) rfl lfX2_21 dX2_make_72 (r := 94) (q_wr90_3 (w.fx fx15)) ?_
        refine q_aload_n 0 rfl rfl dX2_make_75 ?_
        refine q_getI (q_sh90 (w.fx fx15)) (by decide) (by decide) rfl lfX2_27 dX2_make_76 ?_
        refine q_iload_n 3 rfl rfl dX2_make_79 ?_
        obtain ⟨hg16, h⟩ := q_guard h
        refine q_iast (q_sh94 (w.fx fx15)) (q_inb_in hg16) dX2_make_80 ?_
        obtain ⟨S17, e18, h⟩ := q_bindS h
        refine q_st e18 ?_
        have fx19 : q_Fx S S17 := e18 ▸ q_Fx.sI (fx15)
        refine q_aload_n 0 rfl rfl dX2_make_81 ?_
        refine q_getR (q_sh90 (w.fx fx19)) (by decide) (by decide) rfl lfX2_24 dX2_make_82 (r := 95) (q_wr90_4 (w.fx fx19)) ?_
        refine q_aload_n 0 rfl rfl dX2_make_85 ?_
        refine q_getI (q_sh90 (w.fx fx19)) (by decide) (by decide) rfl lfX2_31 dX2_make_86 ?_
        refine q_aload_n 0 rfl rfl dX2_make_89 ?_
        refine q_getI (q_sh90 (w.fx fx19)) (by decide) (by decide) rfl lfX2_31 dX2_make_90 ?_
        refine q_iload_n 2 rfl rfl dX2_make_93 ?_
        refine q_iadd dX2_make_94 ?_
        refine q_iconst (v := (0 : Int32)) (by decide) dX2_make_95 ?_
        obtain ⟨r20, e21, h⟩ := q_bind h
        refine q_callS (d := 1) (Mc := mJ7_fill_fda19) (kc := 0) (nc := 0) [.ref 95, .int (S17.2.1 90 6), .int ((S17.2.1 90 6) + x2), .int (0 : Int32)] okJ7_fill_fda19 lmX2_34 inJ7_fill_fda19 rfl (Nat.le_of_ble_eq_true rfl) (Nat.le_of_ble_eq_true rfl) (Nat.le_refl _) (Nat.le_refl _) dX2_make_96 (q_L.deep (by decide) (kJ7_fill_fda19 (Q := fun r S' => r = none ∧ S' = r20) (w.fx fx19) (q_sh95 (w.fx fx19)) e21 ⟨rfl, rfl⟩)) (q_kV ?_)
        have fx22 : q_Fx S r20 := q_Fx.tr (fx19) (fxJ7_fill_fda19 e21)
        refine q_aload_n 0 rfl rfl dX2_make_99 ?_
        refine q_dup rfl dX2_make_100 ?_
        refine q_getI (q_sh90 (w.fx fx22)) (by decide) (by decide) rfl lfX2_31 dX2_make_101 ?_
        refine q_iload_n 2 rfl rfl dX2_make_104 ?_
        refine q_iadd dX2_make_105 ?_
        refine q_putI (q_sh90 (w.fx fx22)) (by decide) (by decide) rfl rfl ⟨rfl, rfl⟩ lfX2_31 dX2_make_106 ?_
        obtain ⟨S23, e24, h⟩ := q_bindS h
        refine q_st e24 ?_
        have fx25 : q_Fx S S23 := e24 ▸ q_Fx.sI (fx22)
        refine q_aload_n 0 rfl rfl dX2_make_109 ?_
        refine q_getI (q_sh90 (w.fx fx25)) (by decide) (by decide) rfl lfX2_27 dX2_make_110 ?_
        obtain rfl := Option.some.inj h
        exact q_iret rfl rfl dX2_make_113 hQ
      · rw [if_neg c] at h
        refine q_iconst (v := (0 : Int32)) (by decide) dX2_make_26 ?_
        obtain rfl := Option.some.inj h
        exact q_iret rfl rfl dX2_make_27 hQ
set_option maxRecDepth 20000 in
theorem kX2_hasCell {S : QS} {g : QG} {Q : Option Value → QS → Prop}  {x1 : Int32} {x2 : Int32} {r : Bool} (w : q_Wire S) (h : fX2_hasCell S x1 x2 = some r) (hQ : Q (some (.int (q_b r))) S) : q_M g mX2_hasCell 0 0 0 [.ref 90, .int x1, .int x2] S Q := by
  unfold fX2_hasCell at h
  show q_L g mX2_hasCell 0 0 0 Q 0 0 0 [(0, .ref 90), (1, .int x1), (2, .int x2)] [] S
  refine q_iload_n 1 rfl rfl dX2_hasCell_0 ?_
  refine q_if_le 30 (by decide) dX2_hasCell_1 (fun c => ?_) (fun c => ?_)
  · rw [if_pos c] at h
    refine q_iconst (v := (0 : Int32)) (by decide) dX2_hasCell_30 ?_
    obtain rfl := Option.some.inj h
    exact q_iret rfl (by decide) dX2_hasCell_31 hQ
  · rw [if_neg c] at h
    refine q_iload_n 1 rfl rfl dX2_hasCell_4 ?_
    refine q_aload_n 0 rfl rfl dX2_hasCell_5 ?_
    refine q_getI (q_sh90 w) (by decide) (by decide) rfl lfX2_27 dX2_hasCell_6 ?_
    refine q_icmp_gt 30 (by decide) dX2_hasCell_9 (fun c => ?_) (fun c => ?_)
    · rw [if_pos c] at h
      refine q_iconst (v := (0 : Int32)) (by decide) dX2_hasCell_30 ?_
      obtain rfl := Option.some.inj h
      exact q_iret rfl (by decide) dX2_hasCell_31 hQ
    · rw [if_neg c] at h
      refine q_iload_n 2 rfl rfl dX2_hasCell_12 ?_
      refine q_if_lt 30 (by decide) dX2_hasCell_13 (fun c => ?_) (fun c => ?_)
      · rw [if_pos c] at h
        refine q_iconst (v := (0 : Int32)) (by decide) dX2_hasCell_30 ?_
        obtain rfl := Option.some.inj h
        exact q_iret rfl (by decide) dX2_hasCell_31 hQ
      · rw [if_neg c] at h
        refine q_iload_n 2 rfl rfl dX2_hasCell_16 ?_
        refine q_aload_n 0 rfl rfl dX2_hasCell_17 ?_
        refine q_getR (q_sh90 w) (by decide) (by decide) rfl lfX2_18 dX2_hasCell_18 (r := 93) (q_wr90_2 w) ?_
        refine q_iload_n 1 rfl rfl dX2_hasCell_21 ?_
        obtain ⟨hg1, h⟩ := q_guard h
        refine q_iald (q_sh93 w) (q_inb_in hg1) dX2_hasCell_22 ?_
        refine q_icmp_ge 30 (by decide) dX2_hasCell_23 (fun c => ?_) (fun c => ?_)
        · rw [if_pos c] at h
          refine q_iconst (v := (0 : Int32)) (by decide) dX2_hasCell_30 ?_
          obtain rfl := Option.some.inj h
          exact q_iret rfl (by decide) dX2_hasCell_31 hQ
        · rw [if_neg c] at h
          refine q_iconst (v := (1 : Int32)) (by decide) dX2_hasCell_26 ?_
          refine q_goto 31 (by decide) dX2_hasCell_27 ?_
          obtain rfl := Option.some.inj h
          exact q_iret rfl (by decide) dX2_hasCell_31 hQ
set_option maxRecDepth 20000 in
theorem kX2_cell {S : QS} {g : QG} {Q : Option Value → QS → Prop}  {x1 : Int32} {x2 : Int32} {r : Int32} (w : q_Wire S) (h : fX2_cell S x1 x2 = some r) (hQ : Q (some (.int r)) S) : q_M g mX2_cell 1 0 0 [.ref 90, .int x1, .int x2] S Q := by
  unfold fX2_cell at h
  show q_L g mX2_cell 1 0 0 Q 0 0 0 [(0, .ref 90), (1, .int x1), (2, .int x2)] [] S
  refine q_aload_n 0 rfl rfl dX2_cell_0 ?_
  refine q_iload_n 1 rfl rfl dX2_cell_1 ?_
  refine q_iload_n 2 rfl rfl dX2_cell_2 ?_
  obtain ⟨r1, e2, h⟩ := q_bind h
  refine q_callV (ci := 2) (d := 0) (Mc := mX2_hasCell) (kc := 0) (nc := 0) [.int x1, .int x2] okX2_hasCell (q_sh90 w) (by decide) rfl lmX2_40 inX2_hasCell seX2_hasCell rfl (Nat.le_of_ble_eq_true rfl) (Nat.le_of_ble_eq_true rfl) (Nat.le_refl _) (Nat.le_refl _) dX2_cell_3 (q_L.deep (by decide) (kX2_hasCell (Q := fun r S' => r = some (.int (q_b r1)) ∧ S' = S) w e2 ⟨rfl, rfl⟩)) (q_kI ?_)
  refine q_if_eq 25 (by decide) dX2_cell_6 (fun c => ?_) (fun c => ?_)
  · have c := q_b_0.mp c; rw [q_if0 c] at h
    refine q_iconst (v := (0 : Int32)) (by decide) dX2_cell_25 ?_
    obtain rfl := Option.some.inj h
    exact q_iret rfl rfl dX2_cell_26 hQ
  · have c := q_b_n.mp c; rw [q_if1 c] at h
    refine q_aload_n 0 rfl rfl dX2_cell_9 ?_
    refine q_getR (q_sh90 w) (by decide) (by decide) rfl lfX2_24 dX2_cell_10 (r := 95) (q_wr90_4 w) ?_
    refine q_aload_n 0 rfl rfl dX2_cell_13 ?_
    refine q_getR (q_sh90 w) (by decide) (by decide) rfl lfX2_15 dX2_cell_14 (r := 92) (q_wr90_1 w) ?_
    refine q_iload_n 1 rfl rfl dX2_cell_17 ?_
    obtain ⟨hg3, h⟩ := q_guard h
    refine q_iald (q_sh92 w) (q_inb_in hg3) dX2_cell_18 ?_
    refine q_iload_n 2 rfl rfl dX2_cell_19 ?_
    refine q_iadd dX2_cell_20 ?_
    obtain ⟨hg4, h⟩ := q_guard h
    refine q_iald (q_sh95 w) (q_inb_in hg4) dX2_cell_21 ?_
    refine q_goto 26 (by decide) dX2_cell_22 ?_
    obtain rfl := Option.some.inj h
    exact q_iret rfl rfl dX2_cell_26 hQ
set_option maxRecDepth 20000 in
theorem kX2_setCell {S : QS} {g : QG} {Q : Option Value → QS → Prop}  {x1 : Int32} {x2 : Int32} {x3 : Int32} {r : QS} (w : q_Wire S) (h : fX2_setCell S x1 x2 x3 = some r) (hQ : Q none r) : q_M g mX2_setCell 1 0 0 [.ref 90, .int x1, .int x2, .int x3] S Q := by
  unfold fX2_setCell at h
  show q_L g mX2_setCell 1 0 0 Q 0 0 0 [(0, .ref 90), (1, .int x1), (2, .int x2), (3, .int x3)] [] S
  refine q_aload_n 0 rfl rfl dX2_setCell_0 ?_
  refine q_iload_n 1 rfl rfl dX2_setCell_1 ?_
  refine q_iload_n 2 rfl rfl dX2_setCell_2 ?_
  obtain ⟨r1, e2, h⟩ := q_bind h
  refine q_callV (ci := 2) (d := 0) (Mc := mX2_hasCell) (kc := 0) (nc := 0) [.int x1, .int x2] okX2_hasCell (q_sh90 w) (by decide) rfl lmX2_40 inX2_hasCell seX2_hasCell rfl (Nat.le_of_ble_eq_true rfl) (Nat.le_of_ble_eq_true rfl) (Nat.le_refl _) (Nat.le_refl _) dX2_setCell_3 (q_L.deep (by decide) (kX2_hasCell (Q := fun r S' => r = some (.int (q_b r1)) ∧ S' = S) w e2 ⟨rfl, rfl⟩)) (q_kI ?_)
  refine q_if_eq 23 (by decide) dX2_setCell_6 (fun c => ?_) (fun c => ?_)
  · have c := q_b_0.mp c; rw [q_if0 c] at h
    obtain rfl := Option.some.inj h
    exact q_vret rfl dX2_setCell_23 hQ
  · have c := q_b_n.mp c; rw [q_if1 c] at h
    refine q_aload_n 0 rfl rfl dX2_setCell_9 ?_
    refine q_getR (q_sh90 w) (by decide) (by decide) rfl lfX2_24 dX2_setCell_10 (r := 95) (q_wr90_4 w) ?_
    refine q_aload_n 0 rfl rfl dX2_setCell_13 ?_
    refine q_getR (q_sh90 w) (by decide) (by decide) rfl lfX2_15 dX2_setCell_14 (r := 92) (q_wr90_1 w) ?_
    refine q_iload_n 1 rfl rfl dX2_setCell_17 ?_
    obtain ⟨hg3, h⟩ := q_guard h
    refine q_iald (q_sh92 w) (q_inb_in hg3) dX2_setCell_18 ?_
    refine q_iload_n 2 rfl rfl dX2_setCell_19 ?_
    refine q_iadd dX2_setCell_20 ?_
    refine q_iload_n 3 rfl rfl dX2_setCell_21 ?_
    obtain ⟨hg4, h⟩ := q_guard h
    refine q_iast (q_sh95 w) (q_inb_in hg4) dX2_setCell_22 ?_
    obtain ⟨S5, e6, h⟩ := q_bindS h
    refine q_st e6 ?_
    have fx7 : q_Fx S S5 := e6 ▸ q_Fx.sI (q_Fx.rf S)
    obtain rfl := Option.some.inj h
    exact q_vret rfl dX2_setCell_23 hQ
