set_option maxRecDepth 20000 in
theorem kX6_addInput {S : QS} {g : QG} {Q : Option Value → QS → Prop}  {x1 : Int32} {r : Bool × QS} (w : q_Wire S) (h : fX6_addInput S x1 = some r) (hQ : Q (some (.int (q_b r.1))) r.2) : q_M g mX6_addInput 0 0 0 [.ref 89, .int x1] S Q := by
  unfold fX6_addInput at h
  show q_L g mX6_addInput 0 0 0 Q 0 0 0 [(0, .ref 89), (1, .int x1)] [] S
  refine q_aload_n 0 rfl rfl dX6_addInput_0 ?_
  refine q_getI (q_sh89 w) (by decide) (by decide) rfl lfX6_56 dX6_addInput_1 ?_
  refine q_sipush (v := (256 : Int32)) (by decide) dX6_addInput_4 ?_
  refine q_icmp_ne 12 (by decide) dX6_addInput_7 (fun c => ?_) (fun c => ?_)
  · rw [if_neg c] at h
    refine q_aload_n 0 rfl rfl dX6_addInput_12 ?_
    refine q_getR (q_sh89 w) (by decide) (by decide) rfl lfX6_32 dX6_addInput_13 (r := 100) (q_wr89_10 w) ?_
    refine q_aload_n 0 rfl rfl dX6_addInput_16 ?_
    refine q_getI (q_sh89 w) (by decide) (by decide) rfl lfX6_56 dX6_addInput_17 ?_
    refine q_iload_n 1 rfl rfl dX6_addInput_20 ?_
    obtain ⟨hg1, h⟩ := q_guard h
    refine q_iast (q_sh100 w) (q_inb_in hg1) dX6_addInput_21 ?_
    obtain ⟨S2, e3, h⟩ := q_bindS h
    refine q_st e3 ?_
    have fx4 : q_Fx S S2 := e3 ▸ q_Fx.sI (q_Fx.rf S)
    refine q_aload_n 0 rfl rfl dX6_addInput_22 ?_
    refine q_dup rfl dX6_addInput_23 ?_
    refine q_getI (q_sh89 (w.fx fx4)) (by decide) (by decide) rfl lfX6_56 dX6_addInput_24 ?_
    refine q_iconst (v := (1 : Int32)) (by decide) dX6_addInput_27 ?_
    refine q_iadd dX6_addInput_28 ?_
    refine q_putI (q_sh89 (w.fx fx4)) (by decide) (by decide) rfl rfl ⟨rfl, rfl⟩ lfX6_56 dX6_addInput_29 ?_
    obtain ⟨S5, e6, h⟩ := q_bindS h
    refine q_st e6 ?_
    have fx7 : q_Fx S S5 := e6 ▸ q_Fx.sI (fx4)
    refine q_iconst (v := (1 : Int32)) (by decide) dX6_addInput_32 ?_
    obtain rfl := Option.some.inj h
    exact q_iret rfl (by decide) dX6_addInput_33 hQ
  · rw [if_pos c] at h
    refine q_iconst (v := (0 : Int32)) (by decide) dX6_addInput_10 ?_
    obtain rfl := Option.some.inj h
    exact q_iret rfl (by decide) dX6_addInput_11 hQ
set_option maxRecDepth 20000 in
theorem kX6_top {S : QS} {g : QG} {Q : Option Value → QS → Prop}   {r : Int32} (w : q_Wire S) (h : fX6_top S = some r) (hQ : Q (some (.int r)) S) : q_M g mX6_top 0 0 0 [.ref 89] S Q := by
  unfold fX6_top at h
  show q_L g mX6_top 0 0 0 Q 0 0 0 [(0, .ref 89)] [] S
  refine q_aload_n 0 rfl rfl dX6_top_0 ?_
  refine q_getI (q_sh89 w) (by decide) (by decide) rfl lfX6_77 dX6_top_1 ?_
  refine q_bipush (v := (20 : Int32)) (by decide) dX6_top_4 ?_
  refine q_imul dX6_top_6 ?_
  refine q_bipush (v := (12 : Int32)) (by decide) dX6_top_7 ?_
  refine q_iadd dX6_top_9 ?_
  refine q_aload_n 0 rfl rfl dX6_top_10 ?_
  refine q_getR (q_sh89 w) (by decide) (by decide) rfl lfX6_29 dX6_top_11 (r := 99) (q_wr89_6 w) ?_
  refine q_aload_n 0 rfl rfl dX6_top_14 ?_
  refine q_getI (q_sh89 w) (by decide) (by decide) rfl lfX6_77 dX6_top_15 ?_
  obtain ⟨hg1, h⟩ := q_guard h
  refine q_iald (q_sh99 w) (q_inb_in hg1) dX6_top_18 ?_
  refine q_iadd dX6_top_19 ?_
  obtain rfl := Option.some.inj h
  exact q_iret rfl rfl dX6_top_20 hQ
set_option maxRecDepth 20000 in
theorem kX6_isStray {S : QS} {g : QG} {Q : Option Value → QS → Prop} {p : Nat} {x1 : Int32} {r : Bool} (w : q_Wire S) (hp : q_pok p) (aR : q_aR S p) (h : fX6_isStray S p x1 = some r) (hQ : Q (some (.int (q_b r))) S) : q_M g mX6_isStray 3 0 0 [.ref 89, .int x1] S Q := by
  unfold fX6_isStray at h
  show q_L g mX6_isStray 3 0 0 Q 0 0 0 [(0, .ref 89), (1, .int x1)] [] S
  refine q_aload_n 0 rfl rfl dX6_isStray_0 ?_
  refine q_getR (q_sh89 w) (by decide) (by decide) rfl lfX6_29 dX6_isStray_1 (r := 99) (q_wr89_6 w) ?_
  refine q_aload_n 0 rfl rfl dX6_isStray_4 ?_
  refine q_getI (q_sh89 w) (by decide) (by decide) rfl lfX6_77 dX6_isStray_5 ?_
  obtain ⟨hg1, h⟩ := q_guard h
  refine q_iald (q_sh99 w) (q_inb_in hg1) dX6_isStray_8 ?_
  refine q_aload_n 0 rfl rfl dX6_isStray_9 ?_
  refine q_getR (q_sh89 w) (by decide) (by decide) rfl lfX6_55 dX6_isStray_10 (r := (p + 10)) (aR).2 ?_
  refine q_getRN (q_shP10 w hp) (by decide) (by decide) rfl lfX6_137 dX6_isStray_13 (r := (p + 17)) (q_wrP10_7 w hp) ?_
  refine q_iload_n 1 rfl rfl dX6_isStray_16 ?_
  obtain ⟨hg2, h⟩ := q_guard h
  refine q_iald (q_shP17 w hp) (q_inb_in hg2) dX6_isStray_17 ?_
  refine q_icmp_eq 23 (by decide) dX6_isStray_18 (fun c => ?_) (fun c => ?_)
  · rw [if_pos c] at h
    refine q_aload_n 0 rfl rfl dX6_isStray_23 ?_
    obtain ⟨r3, e4, h⟩ := q_bind h
    refine q_callV (ci := 6) (d := 2) (Mc := mX6_top) (kc := 0) (nc := 0) [] okX6_top (q_sh89 w) (by decide) rfl lmX6_138 inX6_top seX6_top rfl (Nat.le_of_ble_eq_true rfl) (Nat.le_of_ble_eq_true rfl) (Nat.le_refl _) (Nat.le_refl _) dX6_isStray_24 (q_L.deep (by decide) (kX6_top (Q := fun r S' => r = some (.int r3) ∧ S' = S) w e4 ⟨rfl, rfl⟩)) (q_kI ?_)
    refine q_aload_n 0 rfl rfl dX6_isStray_27 ?_
    refine q_getR (q_sh89 w) (by decide) (by decide) rfl lfX6_45 dX6_isStray_28 (r := p) (aR).1 ?_
    refine q_iload_n 1 rfl rfl dX6_isStray_31 ?_
    obtain ⟨r5, e6, h⟩ := q_bind h
    refine q_callV (ci := 5) (d := 2) (Mc := mX5_takes) (kc := 0) (nc := 0) [.int x1] okX5_takes (q_shP0 w hp) (by decide) rfl lmX6_142 inX5_takes seX5_takes rfl (Nat.le_of_ble_eq_true rfl) (Nat.le_of_ble_eq_true rfl) (Nat.le_refl _) (Nat.le_refl _) dX6_isStray_32 (q_L.deep (by decide) (kX5_takes (Q := fun r S' => r = some (.int r5) ∧ S' = S) w hp e6 ⟨rfl, rfl⟩)) (q_kI ?_)
    refine q_isub dX6_isStray_35 ?_
    refine q_istore_n [(2, .int (r3 - r5)), (0, .ref 89), (1, .int x1)] rfl (by decide) rfl dX6_isStray_36 ?_
    refine q_aload_n 1 rfl rfl dX6_isStray_37 ?_
    refine q_getR (q_sh89 w) (by decide) (by decide) rfl lfX6_45 dX6_isStray_38 (r := p) (aR).1 ?_
    refine q_iload_n 2 rfl rfl dX6_isStray_41 ?_
    refine q_aload_n 1 rfl rfl dX6_isStray_42 ?_
    refine q_getR (q_sh89 w) (by decide) (by decide) rfl lfX6_22 dX6_isStray_43 (r := 97) (q_wr89_4 w) ?_
    refine q_aload_n 1 rfl rfl dX6_isStray_46 ?_
    refine q_getI (q_sh89 w) (by decide) (by decide) rfl lfX6_77 dX6_isStray_47 ?_
    refine q_bipush (v := (20 : Int32)) (by decide) dX6_isStray_50 ?_
    refine q_imul dX6_isStray_52 ?_
    refine q_iload_n 0 rfl rfl dX6_isStray_53 ?_
    obtain ⟨r7, e8, h⟩ := q_bind h
    refine q_callV (ci := 5) (d := 2) (Mc := mX5_suits) (kc := 0) (nc := 0) [.int x1, .ref 97, .int ((S.2.1 89 7) * (20 : Int32)), .int (r3 - r5)] okX5_suits (q_shP0 w hp) (by decide) rfl lmX6_146 inX5_suits seX5_suits rfl (Nat.le_of_ble_eq_true rfl) (Nat.le_of_ble_eq_true rfl) (Nat.le_refl _) (Nat.le_refl _) dX6_isStray_54 (q_L.deep (by decide) (kX5_suits (Q := fun r S' => r = some (.int (q_b r7)) ∧ S' = S) w hp (q_sh97 w) e8 ⟨rfl, rfl⟩)) (q_kI ?_)
    refine q_if_ne 62 (by decide) dX6_isStray_57 (fun c => ?_) (fun c => ?_)
    · have c := q_b_n.mp c; rw [q_if1 c] at h
      refine q_aload_n 1 rfl rfl dX6_isStray_62 ?_
      refine q_getR (q_sh89 w) (by decide) (by decide) rfl lfX6_55 dX6_isStray_63 (r := (p + 10)) (aR).2 ?_
      refine q_getRN (q_shP10 w hp) (by decide) (by decide) rfl lfX6_105 dX6_isStray_66 (r := (p + 11)) (q_wrP10_1 w hp) ?_
      refine q_iload_n 2 rfl rfl dX6_isStray_69 ?_
      obtain ⟨hg9, h⟩ := q_guard h
      refine q_iald (q_shP11 w hp) (q_inb_in hg9) dX6_isStray_70 ?_
      refine q_bipush (v := (34 : Int32)) (by decide) dX6_isStray_71 ?_
      refine q_icmp_eq 78 (by decide) dX6_isStray_73 (fun c => ?_) (fun c => ?_)
      · rw [if_pos c] at h
        refine q_aload_n 1 rfl rfl dX6_isStray_78 ?_
        refine q_getR (q_sh89 w) (by decide) (by decide) rfl lfX6_22 dX6_isStray_79 (r := 97) (q_wr89_4 w) ?_
        refine q_iload_n 0 rfl rfl dX6_isStray_82 ?_
        refine q_iconst (v := (2 : Int32)) (by decide) dX6_isStray_83 ?_
        refine q_iadd dX6_isStray_84 ?_
        obtain ⟨hg10, h⟩ := q_guard h
        refine q_bald (q_sh97 w) (q_inb_in hg10) dX6_isStray_85 ?_
        refine q_bipush (v := (65 : Int32)) (by decide) dX6_isStray_86 ?_
        obtain ⟨v12, hv, h⟩ := q_bind h
        have K1 : q_L g mX6_isStray 3 0 0 Q 0 0 104 [(0, .ref 89), (2, .int (r3 - r5))] [.int v12] S := by
          refine q_istore_n [(3, .int v12), (0, .ref 89), (2, .int (r3 - r5))] rfl (by decide) rfl dX6_isStray_104 ?_
          refine q_aload_n 1 rfl rfl dX6_isStray_105 ?_
          refine q_getR (q_sh89 w) (by decide) (by decide) rfl lfX6_45 dX6_isStray_106 (r := p) (aR).1 ?_
          refine q_getRN (q_shP0 w hp) (by decide) (by decide) rfl lfX6_150 dX6_isStray_109 (r := (p + 1)) (q_wrP0_0 w hp) ?_
          refine q_iload_n 0 rfl rfl dX6_isStray_112 ?_
          refine q_aload_n 1 rfl rfl dX6_isStray_113 ?_
          refine q_getR (q_sh89 w) (by decide) (by decide) rfl lfX6_22 dX6_isStray_114 (r := 97) (q_wr89_4 w) ?_
          refine q_iload_n 2 rfl rfl dX6_isStray_117 ?_
          obtain ⟨hg13, h⟩ := q_guard h
          refine q_bald (q_sh97 w) (q_inb_in hg13) dX6_isStray_118 ?_
          obtain ⟨r14, e15, h⟩ := q_bind h
          refine q_callV (ci := 0) (d := 2) (Mc := mX0_isElement) (kc := 0) (nc := 0) [.int v12, .int (S.2.1 97 (r3 - r5).toNatClampNeg)] okX0_isElement (q_shP1 w hp) (by decide) rfl lmX6_154 inX0_isElement seX0_isElement rfl (Nat.le_of_ble_eq_true rfl) (Nat.le_of_ble_eq_true rfl) (Nat.le_refl _) (Nat.le_refl _) dX6_isStray_119 (q_L.deep (by decide) (kX0_isElement (Q := fun r S' => r = some (.int (q_b r14)) ∧ S' = S) w hp e15 ⟨rfl, rfl⟩)) (q_kI ?_)
          refine q_if_ne 129 (by decide) dX6_isStray_122 (fun c => ?_) (fun c => ?_)
          · have c := q_b_n.mp c; rw [q_if1 c] at h
            refine q_iconst (v := (0 : Int32)) (by decide) dX6_isStray_129 ?_
            obtain rfl := Option.some.inj h
            exact q_iret rfl (by decide) dX6_isStray_130 hQ
          · have c := q_b_0.mp c; rw [q_if0 c] at h
            refine q_iconst (v := (1 : Int32)) (by decide) dX6_isStray_125 ?_
            refine q_goto 130 (by decide) dX6_isStray_126 ?_
            obtain rfl := Option.some.inj h
            exact q_iret rfl (by decide) dX6_isStray_130 hQ
        replace h := hv
        refine q_icmp_ge 96 (by decide) dX6_isStray_88 (fun c => ?_) (fun c => ?_)
        · rw [if_pos c] at h
          refine q_aload_n 1 rfl rfl dX6_isStray_96 ?_
          refine q_getR (q_sh89 w) (by decide) (by decide) rfl lfX6_22 dX6_isStray_97 (r := 97) (q_wr89_4 w) ?_
          refine q_iload_n 0 rfl rfl dX6_isStray_100 ?_
          refine q_iconst (v := (2 : Int32)) (by decide) dX6_isStray_101 ?_
          refine q_iadd dX6_isStray_102 ?_
          obtain ⟨hg11, h⟩ := q_guard h
          refine q_bald (q_sh97 w) (q_inb_in hg11) dX6_isStray_103 ?_
          obtain rfl := Option.some.inj h
          refine q_sub [1, 0] rfl ?_
          exact K1
        · rw [if_neg c] at h
          refine q_bipush (v := (65 : Int32)) (by decide) dX6_isStray_91 ?_
          refine q_goto 104 (by decide) dX6_isStray_93 ?_
          obtain rfl := Option.some.inj h
          refine q_sub [1, 0] rfl ?_
          exact K1
      · rw [if_neg c] at h
        refine q_iconst (v := (0 : Int32)) (by decide) dX6_isStray_76 ?_
        obtain rfl := Option.some.inj h
        exact q_iret rfl (by decide) dX6_isStray_77 hQ
    · have c := q_b_0.mp c; rw [q_if0 c] at h
      refine q_iconst (v := (1 : Int32)) (by decide) dX6_isStray_60 ?_
      obtain rfl := Option.some.inj h
      exact q_iret rfl (by decide) dX6_isStray_61 hQ
  · rw [if_neg c] at h
    refine q_iconst (v := (1 : Int32)) (by decide) dX6_isStray_21 ?_
    obtain rfl := Option.some.inj h
    exact q_iret rfl (by decide) dX6_isStray_22 hQ
set_option maxRecDepth 20000 in
theorem kX6_push {S : QS} {g : QG} {Q : Option Value → QS → Prop}  {x1 : Int32} {x2 : Int32} {r : QS} (w : q_Wire S) (h : fX6_push S x1 x2 = some r) (hQ : Q none r) : q_M g mX6_push 0 0 0 [.ref 89, .int x1, .int x2] S Q := by
  unfold fX6_push at h
  show q_L g mX6_push 0 0 0 Q 0 0 0 [(0, .ref 89), (1, .int x1), (2, .int x2)] [] S
  refine q_aload_n 0 rfl rfl dX6_push_0 ?_
  refine q_getR (q_sh89 w) (by decide) (by decide) rfl lfX6_29 dX6_push_1 (r := 99) (q_wr89_6 w) ?_
  refine q_aload_n 0 rfl rfl dX6_push_4 ?_
  refine q_getI (q_sh89 w) (by decide) (by decide) rfl lfX6_77 dX6_push_5 ?_
  obtain ⟨hg1, h⟩ := q_guard h
  refine q_iald (q_sh99 w) (q_inb_in hg1) dX6_push_8 ?_
  refine q_bipush (v := (8 : Int32)) (by decide) dX6_push_9 ?_
  refine q_icmp_ge 63 (by decide) dX6_push_11 (fun c => ?_) (fun c => ?_)
  · rw [if_pos c] at h
    obtain rfl := Option.some.inj h
    exact q_vret rfl dX6_push_63 hQ
  · rw [if_neg c] at h
    refine q_aload_n 0 rfl rfl dX6_push_14 ?_
    refine q_getI (q_sh89 w) (by decide) (by decide) rfl lfX6_77 dX6_push_15 ?_
    refine q_bipush (v := (20 : Int32)) (by decide) dX6_push_18 ?_
    refine q_imul dX6_push_20 ?_
    refine q_bipush (v := (12 : Int32)) (by decide) dX6_push_21 ?_
    refine q_iadd dX6_push_23 ?_
    refine q_aload_n 0 rfl rfl dX6_push_24 ?_
    refine q_getR (q_sh89 w) (by decide) (by decide) rfl lfX6_29 dX6_push_25 (r := 99) (q_wr89_6 w) ?_
    refine q_aload_n 0 rfl rfl dX6_push_28 ?_
    refine q_getI (q_sh89 w) (by decide) (by decide) rfl lfX6_77 dX6_push_29 ?_
    obtain ⟨hg2, h⟩ := q_guard h
    refine q_iald (q_sh99 w) (q_inb_in hg2) dX6_push_32 ?_
    refine q_iadd dX6_push_33 ?_
    refine q_istore_n [(3, .int ((((S.2.1 89 7) * (20 : Int32)) + (12 : Int32)) + (S.2.1 99 (S.2.1 89 7).toNatClampNeg))), (0, .ref 89), (1, .int x1), (2, .int x2)] rfl (by decide) rfl dX6_push_34 ?_
    refine q_aload_n 1 rfl rfl dX6_push_35 ?_
    refine q_getR (q_sh89 w) (by decide) (by decide) rfl lfX6_18 dX6_push_36 (r := 96) (q_wr89_3 w) ?_
    refine q_iload_n 0 rfl rfl dX6_push_39 ?_
    refine q_iload_n 2 rfl rfl dX6_push_40 ?_
    obtain ⟨hg3, h⟩ := q_guard h
    refine q_iast (q_sh96 w) (q_inb_in hg3) dX6_push_41 ?_
    obtain ⟨S4, e5, h⟩ := q_bindS h
    refine q_st e5 ?_
    have fx6 : q_Fx S S4 := e5 ▸ q_Fx.sI (q_Fx.rf S)
    refine q_aload_n 1 rfl rfl dX6_push_42 ?_
    refine q_getR (q_sh89 (w.fx fx6)) (by decide) (by decide) rfl lfX6_22 dX6_push_43 (r := 97) (q_wr89_4 (w.fx fx6)) ?_
    refine q_iload_n 0 rfl rfl dX6_push_46 ?_
    refine q_iload_n 3 rfl rfl dX6_push_47 ?_
    refine q_i2b dX6_push_48 ?_
    obtain ⟨hg7, h⟩ := q_guard h
    refine q_bast (q_sh97 (w.fx fx6)) (q_inb_in hg7) dX6_push_49 ?_
    obtain ⟨S8, e9, h⟩ := q_bindS h
    refine q_st e9 ?_
    have fx10 : q_Fx S S8 := e9 ▸ q_Fx.sI (fx6)
    refine q_aload_n 1 rfl rfl dX6_push_50 ?_
    refine q_getR (q_sh89 (w.fx fx10)) (by decide) (by decide) rfl lfX6_29 dX6_push_51 (r := 99) (q_wr89_6 (w.fx fx10)) ?_
    refine q_aload_n 1 rfl rfl dX6_push_54 ?_
    refine q_getI (q_sh89 (w.fx fx10)) (by decide) (by decide) rfl lfX6_77 dX6_push_55 ?_
    refine q_dup2 rfl rfl dX6_push_58 ?_
    obtain ⟨hg11, h⟩ := q_guard h
    refine q_iald (q_sh99 (w.fx fx10)) (q_inb_in hg11) dX6_push_59 ?_
    refine q_iconst (v := (1 : Int32)) (by decide) dX6_push_60 ?_
    refine q_iadd dX6_push_61 ?_
    obtain ⟨hg12, h⟩ := q_guard h
    refine q_iast (q_sh99 (w.fx fx10)) (q_inb_in hg12) dX6_push_62 ?_
    obtain ⟨S13, e14, h⟩ := q_bindS h
    refine q_st e14 ?_
    have fx15 : q_Fx S S13 := e14 ▸ q_Fx.sI (fx10)
    obtain rfl := Option.some.inj h
    exact q_vret rfl dX6_push_63 hQ
set_option maxRecDepth 20000 in
theorem kX6_pushInt {S : QS} {g : QG} {Q : Option Value → QS → Prop}  {x1 : Int32} {r : QS} (w : q_Wire S) (h : fX6_pushInt S x1 = some r) (hQ : Q none r) : q_M g mX6_pushInt 1 0 0 [.ref 89, .int x1] S Q := by
  unfold fX6_pushInt at h
  show q_L g mX6_pushInt 1 0 0 Q 0 0 0 [(0, .ref 89), (1, .int x1)] [] S
  refine q_aload_n 0 rfl rfl dX6_pushInt_0 ?_
  refine q_iload_n 1 rfl rfl dX6_pushInt_1 ?_
  refine q_bipush (v := (66 : Int32)) (by decide) dX6_pushInt_2 ?_
  obtain ⟨r1, e2, h⟩ := q_bind h
  refine q_callV (ci := 6) (d := 0) (Mc := mX6_push) (kc := 0) (nc := 0) [.int x1, .int (66 : Int32)] okX6_push (q_sh89 w) (by decide) rfl lmX6_160 inX6_push seX6_push rfl (Nat.le_of_ble_eq_true rfl) (Nat.le_of_ble_eq_true rfl) (Nat.le_refl _) (Nat.le_refl _) dX6_pushInt_4 (q_L.deep (by decide) (kX6_push (Q := fun r S' => r = none ∧ S' = r1) w e2 ⟨rfl, rfl⟩)) (q_kV ?_)
  have fx3 : q_Fx S r1 := q_Fx.tr (q_Fx.rf S) (fxX6_push e2)
  obtain rfl := Option.some.inj h
  exact q_vret rfl dX6_pushInt_7 hQ
set_option maxRecDepth 20000 in
theorem kX6_pushObject {S : QS} {g : QG} {Q : Option Value → QS → Prop}  {x1 : Int32} {r : QS} (w : q_Wire S) (h : fX6_pushObject S x1 = some r) (hQ : Q none r) : q_M g mX6_pushObject 1 0 0 [.ref 89, .int x1] S Q := by
  unfold fX6_pushObject at h
  show q_L g mX6_pushObject 1 0 0 Q 0 0 0 [(0, .ref 89), (1, .int x1)] [] S
  refine q_aload_n 0 rfl rfl dX6_pushObject_0 ?_
  refine q_iload_n 1 rfl rfl dX6_pushObject_1 ?_
  refine q_aload_n 0 rfl rfl dX6_pushObject_2 ?_
  refine q_getR (q_sh89 w) (by decide) (by decide) rfl lfX6_12 dX6_pushObject_3 (r := 90) (q_wr89_2 w) ?_
  refine q_getRN (q_sh90 w) (by decide) (by decide) rfl lfX6_163 dX6_pushObject_6 (r := 91) (q_wr90_0 w) ?_
  refine q_iload_n 1 rfl rfl dX6_pushObject_9 ?_
  obtain ⟨hg1, h⟩ := q_guard h
  refine q_iald (q_sh91 w) (q_inb_in hg1) dX6_pushObject_10 ?_
  obtain ⟨r2, e3, h⟩ := q_bind h
  refine q_callV (ci := 6) (d := 0) (Mc := mX6_push) (kc := 0) (nc := 0) [.int x1, .int (S.2.1 91 x1.toNatClampNeg)] okX6_push (q_sh89 w) (by decide) rfl lmX6_160 inX6_push seX6_push rfl (Nat.le_of_ble_eq_true rfl) (Nat.le_of_ble_eq_true rfl) (Nat.le_refl _) (Nat.le_refl _) dX6_pushObject_11 (q_L.deep (by decide) (kX6_push (Q := fun r S' => r = none ∧ S' = r2) w e3 ⟨rfl, rfl⟩)) (q_kV ?_)
  have fx4 : q_Fx S r2 := q_Fx.tr (q_Fx.rf S) (fxX6_push e3)
  obtain rfl := Option.some.inj h
  exact q_vret rfl dX6_pushObject_14 hQ
set_option maxRecDepth 20000 in
theorem kX6_pop {S : QS} {g : QG} {Q : Option Value → QS → Prop}   {r : Int32 × QS} (w : q_Wire S) (h : fX6_pop S = some r) (hQ : Q (some (.int r.1)) r.2) : q_M g mX6_pop 1 0 0 [.ref 89] S Q := by
  unfold fX6_pop at h
  show q_L g mX6_pop 1 0 0 Q 0 0 0 [(0, .ref 89)] [] S
  refine q_aload_n 0 rfl rfl dX6_pop_0 ?_
  refine q_getR (q_sh89 w) (by decide) (by decide) rfl lfX6_29 dX6_pop_1 (r := 99) (q_wr89_6 w) ?_
  refine q_aload_n 0 rfl rfl dX6_pop_4 ?_
  refine q_getI (q_sh89 w) (by decide) (by decide) rfl lfX6_77 dX6_pop_5 ?_
  obtain ⟨hg1, h⟩ := q_guard h
  refine q_iald (q_sh99 w) (q_inb_in hg1) dX6_pop_8 ?_
  refine q_if_ne 14 (by decide) dX6_pop_9 (fun c => ?_) (fun c => ?_)
  · rw [if_neg c] at h
    refine q_aload_n 0 rfl rfl dX6_pop_14 ?_
    refine q_getR (q_sh89 w) (by decide) (by decide) rfl lfX6_29 dX6_pop_15 (r := 99) (q_wr89_6 w) ?_
    refine q_aload_n 0 rfl rfl dX6_pop_18 ?_
    refine q_getI (q_sh89 w) (by decide) (by decide) rfl lfX6_77 dX6_pop_19 ?_
    refine q_dup2 rfl rfl dX6_pop_22 ?_
    obtain ⟨hg2, h⟩ := q_guard h
    refine q_iald (q_sh99 w) (q_inb_in hg2) dX6_pop_23 ?_
    refine q_iconst (v := (1 : Int32)) (by decide) dX6_pop_24 ?_
    refine q_isub dX6_pop_25 ?_
    obtain ⟨hg3, h⟩ := q_guard h
    refine q_iast (q_sh99 w) (q_inb_in hg3) dX6_pop_26 ?_
    obtain ⟨S4, e5, h⟩ := q_bindS h
    refine q_st e5 ?_
    have fx6 : q_Fx S S4 := e5 ▸ q_Fx.sI (q_Fx.rf S)
    refine q_aload_n 0 rfl rfl dX6_pop_27 ?_
    refine q_getR (q_sh89 (w.fx fx6)) (by decide) (by decide) rfl lfX6_18 dX6_pop_28 (r := 96) (q_wr89_3 (w.fx fx6)) ?_
    refine q_aload_n 0 rfl rfl dX6_pop_31 ?_
    obtain ⟨r7, e8, h⟩ := q_bind h
    refine q_callV (ci := 6) (d := 0) (Mc := mX6_top) (kc := 0) (nc := 0) [] okX6_top (q_sh89 (w.fx fx6)) (by decide) rfl lmX6_138 inX6_top seX6_top rfl (Nat.le_of_ble_eq_true rfl) (Nat.le_of_ble_eq_true rfl) (Nat.le_refl _) (Nat.le_refl _) dX6_pop_32 (q_L.deep (by decide) (kX6_top (Q := fun r S' => r = some (.int r7) ∧ S' = S4) (w.fx fx6) e8 ⟨rfl, rfl⟩)) (q_kI ?_)
    obtain ⟨hg9, h⟩ := q_guard h
    refine q_iald (q_sh96 (w.fx fx6)) (q_inb_in hg9) dX6_pop_35 ?_
    obtain rfl := Option.some.inj h
    exact q_iret rfl rfl dX6_pop_36 hQ
  · rw [if_pos c] at h
    refine q_iconst (v := (0 : Int32)) (by decide) dX6_pop_12 ?_
    obtain rfl := Option.some.inj h
    exact q_iret rfl rfl dX6_pop_13 hQ
set_option maxRecDepth 20000 in
theorem kX6_swap {S : QS} {g : QG} {Q : Option Value → QS → Prop}  {x1 : Int32} {x2 : Int32} {r : QS} (w : q_Wire S) (h : fX6_swap S x1 x2 = some r) (hQ : Q none r) : q_M g mX6_swap 0 0 0 [.ref 89, .int x1, .int x2] S Q := by
  unfold fX6_swap at h
  show q_L g mX6_swap 0 0 0 Q 0 0 0 [(0, .ref 89), (1, .int x1), (2, .int x2)] [] S
  refine q_aload_n 0 rfl rfl dX6_swap_0 ?_
  refine q_getR (q_sh89 w) (by decide) (by decide) rfl lfX6_18 dX6_swap_1 (r := 96) (q_wr89_3 w) ?_
  refine q_iload_n 1 rfl rfl dX6_swap_4 ?_
  obtain ⟨hg1, h⟩ := q_guard h
  refine q_iald (q_sh96 w) (q_inb_in hg1) dX6_swap_5 ?_
  refine q_istore_n [(3, .int (S.2.1 96 x1.toNatClampNeg)), (0, .ref 89), (1, .int x1), (2, .int x2)] rfl (by decide) rfl dX6_swap_6 ?_
  refine q_aload_n 1 rfl rfl dX6_swap_7 ?_
  refine q_getR (q_sh89 w) (by decide) (by decide) rfl lfX6_22 dX6_swap_8 (r := 97) (q_wr89_4 w) ?_
  refine q_iload_n 2 rfl rfl dX6_swap_11 ?_
  obtain ⟨hg2, h⟩ := q_guard h
  refine q_bald (q_sh97 w) (q_inb_in hg2) dX6_swap_12 ?_
  refine q_istore [(4, .int (S.2.1 97 x1.toNatClampNeg)), (3, .int (S.2.1 96 x1.toNatClampNeg)), (0, .ref 89), (1, .int x1), (2, .int x2)] (by decide) rfl dX6_swap_13 ?_
  refine q_aload_n 2 rfl rfl dX6_swap_15 ?_
  refine q_getR (q_sh89 w) (by decide) (by decide) rfl lfX6_18 dX6_swap_16 (r := 96) (q_wr89_3 w) ?_
  refine q_iload_n 3 rfl rfl dX6_swap_19 ?_
  refine q_aload_n 2 rfl rfl dX6_swap_20 ?_
  refine q_getR (q_sh89 w) (by decide) (by decide) rfl lfX6_18 dX6_swap_21 (r := 96) (q_wr89_3 w) ?_
  refine q_iload_n 4 rfl rfl dX6_swap_24 ?_
  obtain ⟨hg3, h⟩ := q_guard h
  refine q_iald (q_sh96 w) (q_inb_in hg3) dX6_swap_25 ?_
  obtain ⟨hg4, h⟩ := q_guard h
  refine q_iast (q_sh96 w) (q_inb_in hg4) dX6_swap_26 ?_
  obtain ⟨S5, e6, h⟩ := q_bindS h
  refine q_st e6 ?_
  have fx7 : q_Fx S S5 := e6 ▸ q_Fx.sI (q_Fx.rf S)
  refine q_aload_n 2 rfl rfl dX6_swap_27 ?_
  refine q_getR (q_sh89 (w.fx fx7)) (by decide) (by decide) rfl lfX6_22 dX6_swap_28 (r := 97) (q_wr89_4 (w.fx fx7)) ?_
  refine q_iload_n 3 rfl rfl dX6_swap_31 ?_
  refine q_aload_n 2 rfl rfl dX6_swap_32 ?_
  refine q_getR (q_sh89 (w.fx fx7)) (by decide) (by decide) rfl lfX6_22 dX6_swap_33 (r := 97) (q_wr89_4 (w.fx fx7)) ?_
  refine q_iload_n 4 rfl rfl dX6_swap_36 ?_
  obtain ⟨hg8, h⟩ := q_guard h
  refine q_bald (q_sh97 (w.fx fx7)) (q_inb_in hg8) dX6_swap_37 ?_
  obtain ⟨hg9, h⟩ := q_guard h
  refine q_bast (q_sh97 (w.fx fx7)) (q_inb_in hg9) dX6_swap_38 ?_
  obtain ⟨S10, e11, h⟩ := q_bindS h
  refine q_st e11 ?_
  have fx12 : q_Fx S S10 := e11 ▸ q_Fx.sI (fx7)
  refine q_aload_n 2 rfl rfl dX6_swap_39 ?_
  refine q_getR (q_sh89 (w.fx fx12)) (by decide) (by decide) rfl lfX6_18 dX6_swap_40 (r := 96) (q_wr89_3 (w.fx fx12)) ?_
  refine q_iload_n 4 rfl rfl dX6_swap_43 ?_
  refine q_iload_n 1 rfl rfl dX6_swap_44 ?_
  obtain ⟨hg13, h⟩ := q_guard h
  refine q_iast (q_sh96 (w.fx fx12)) (q_inb_in hg13) dX6_swap_45 ?_
  obtain ⟨S14, e15, h⟩ := q_bindS h
  refine q_st e15 ?_
  have fx16 : q_Fx S S14 := e15 ▸ q_Fx.sI (fx12)
  refine q_aload_n 2 rfl rfl dX6_swap_46 ?_
  refine q_getR (q_sh89 (w.fx fx16)) (by decide) (by decide) rfl lfX6_22 dX6_swap_47 (r := 97) (q_wr89_4 (w.fx fx16)) ?_
  refine q_iload_n 4 rfl rfl dX6_swap_50 ?_
  refine q_iload 0 rfl dX6_swap_51 ?_
  obtain ⟨hg17, h⟩ := q_guard h
  refine q_bast (q_sh97 (w.fx fx16)) (q_inb_in hg17) dX6_swap_53 ?_
  obtain ⟨S18, e19, h⟩ := q_bindS h
  refine q_st e19 ?_
  have fx20 : q_Fx S S18 := e19 ▸ q_Fx.sI (fx16)
  obtain rfl := Option.some.inj h
  exact q_vret rfl dX6_swap_54 hQ
set_option maxRecDepth 20000 in
theorem kX6_move {S : QS} {g : QG} {Q : Option Value → QS → Prop}  {x1 : Int32} {x2 : Int32} {x3 : Int32} {r : QS} (w : q_Wire S) (h : fX6_move S x1 x2 x3 = some r) (hQ : Q none r) : q_M g mX6_move 2 0 0 [.ref 89, .int x1, .int x2, .int x3] S Q := by
  unfold fX6_move at h
  show q_L g mX6_move 2 0 0 Q 0 0 0 [(0, .ref 89), (1, .int x1), (2, .int x2), (3, .int x3)] [] S
  refine q_aload_n 0 rfl rfl dX6_move_0 ?_
  refine q_getI (q_sh89 w) (by decide) (by decide) rfl lfX6_77 dX6_move_1 ?_
  refine q_bipush (v := (20 : Int32)) (by decide) dX6_move_4 ?_
  refine q_imul dX6_move_6 ?_
  refine q_iload_n 2 rfl rfl dX6_move_7 ?_
  refine q_iadd dX6_move_8 ?_
  refine q_istore [(4, .int (((S.2.1 89 7) * (20 : Int32)) + x2)), (0, .ref 89), (1, .int x1), (2, .int x2), (3, .int x3)] (by decide) rfl dX6_move_9 ?_
  refine q_aload_n 1 rfl rfl dX6_move_11 ?_
  obtain ⟨r1, e2, h⟩ := q_bind h
  refine q_callV (ci := 6) (d := 1) (Mc := mX6_top) (kc := 0) (nc := 0) [] okX6_top (q_sh89 w) (by decide) rfl lmX6_138 inX6_top seX6_top rfl (Nat.le_of_ble_eq_true rfl) (Nat.le_of_ble_eq_true rfl) (Nat.le_refl _) (Nat.le_refl _) dX6_move_12 (q_L.deep (by decide) (kX6_top (Q := fun r S' => r = some (.int r1) ∧ S' = S) w e2 ⟨rfl, rfl⟩)) (q_kI ?_)
  refine q_istore [(5, .int r1), (4, .int (((S.2.1 89 7) * (20 : Int32)) + x2)), (0, .ref 89), (1, .int x1), (2, .int x2), (3, .int x3)] (by decide) rfl dX6_move_15 ?_
  refine q_iload_n 3 rfl rfl dX6_move_17 ?_
  by_cases c3 : x1 = (0 : Int32)
  · rw [if_pos c3] at h
    refine q_tabIn (M := mX6_move) (pc := 18) (x := x1) 60 (by rw [c3]; decide) (by rw [c3]; decide) (by rw [c3]; rfl) (by decide) dX6_move_18 ?_
    refine q_aload_n 2 rfl rfl dX6_move_60 ?_
    refine q_iload_n 4 rfl rfl dX6_move_61 ?_
    obtain ⟨r4, e5, h⟩ := q_bind h
    refine q_callV (ci := 6) (d := 1) (Mc := mX6_pushInt) (kc := 0) (nc := 0) [.int x2] okX6_pushInt (q_sh89 w) (by decide) rfl lmX6_166 inX6_pushInt seX6_pushInt rfl (Nat.le_of_ble_eq_true rfl) (Nat.le_of_ble_eq_true rfl) (Nat.le_refl _) (Nat.le_refl _) dX6_move_62 (q_L.deep (by decide) (kX6_pushInt (Q := fun r S' => r = none ∧ S' = r4) w e5 ⟨rfl, rfl⟩)) (q_kV ?_)
    have fx6 : q_Fx S r4 := q_Fx.tr (q_Fx.rf S) (fxX6_pushInt e5)
    refine q_goto 186 (by decide) dX6_move_65 ?_
    obtain rfl := Option.some.inj h
    exact q_vret rfl dX6_move_186 hQ
  rw [if_neg c3] at h
  by_cases c7 : x1 = (1 : Int32)
  · rw [if_pos c7] at h
    refine q_tabIn (M := mX6_move) (pc := 18) (x := x1) 68 (by rw [c7]; decide) (by rw [c7]; decide) (by rw [c7]; rfl) (by decide) dX6_move_18 ?_
    refine q_aload_n 2 rfl rfl dX6_move_68 ?_
    refine q_iconst (v := (0 : Int32)) (by decide) dX6_move_69 ?_
    obtain ⟨r8, e9, h⟩ := q_bind h
    refine q_callV (ci := 6) (d := 1) (Mc := mX6_pushObject) (kc := 0) (nc := 0) [.int (0 : Int32)] okX6_pushObject (q_sh89 w) (by decide) rfl lmX6_169 inX6_pushObject seX6_pushObject rfl (Nat.le_of_ble_eq_true rfl) (Nat.le_of_ble_eq_true rfl) (Nat.le_refl _) (Nat.le_refl _) dX6_move_70 (q_L.deep (by decide) (kX6_pushObject (Q := fun r S' => r = none ∧ S' = r8) w e9 ⟨rfl, rfl⟩)) (q_kV ?_)
    have fx10 : q_Fx S r8 := q_Fx.tr (q_Fx.rf S) (fxX6_pushObject e9)
    refine q_goto 186 (by decide) dX6_move_73 ?_
    obtain rfl := Option.some.inj h
    exact q_vret rfl dX6_move_186 hQ
  rw [if_neg c7] at h
  by_cases c11 : x1 = (2 : Int32)
  · rw [if_pos c11] at h
    refine q_tabIn (M := mX6_move) (pc := 18) (x := x1) 76 (by rw [c11]; decide) (by rw [c11]; decide) (by rw [c11]; rfl) (by decide) dX6_move_18 ?_
    refine q_aload_n 2 rfl rfl dX6_move_76 ?_
    refine q_aload_n 2 rfl rfl dX6_move_77 ?_
    refine q_getR (q_sh89 w) (by decide) (by decide) rfl lfX6_18 dX6_move_78 (r := 96) (q_wr89_3 w) ?_
    refine q_iload 1 rfl dX6_move_81 ?_
    obtain ⟨hg12, h⟩ := q_guard h
    refine q_iald (q_sh96 w) (q_inb_in hg12) dX6_move_83 ?_
    refine q_aload_n 2 rfl rfl dX6_move_84 ?_
    refine q_getR (q_sh89 w) (by decide) (by decide) rfl lfX6_22 dX6_move_85 (r := 97) (q_wr89_4 w) ?_
    refine q_iload 1 rfl dX6_move_88 ?_
    obtain ⟨hg13, h⟩ := q_guard h
    refine q_bald (q_sh97 w) (q_inb_in hg13) dX6_move_90 ?_
    obtain ⟨r14, e15, h⟩ := q_bind h
    refine q_callV (ci := 6) (d := 1) (Mc := mX6_push) (kc := 0) (nc := 0) [.int (S.2.1 96 (((S.2.1 89 7) * (20 : Int32)) + x2).toNatClampNeg), .int (S.2.1 97 (((S.2.1 89 7) * (20 : Int32)) + x2).toNatClampNeg)] okX6_push (q_sh89 w) (by decide) rfl lmX6_160 inX6_push seX6_push rfl (Nat.le_of_ble_eq_true rfl) (Nat.le_of_ble_eq_true rfl) (Nat.le_refl _) (Nat.le_refl _) dX6_move_91 (q_L.deep (by decide) (kX6_push (Q := fun r S' => r = none ∧ S' = r14) w e15 ⟨rfl, rfl⟩)) (q_kV ?_)
    have fx16 : q_Fx S r14 := q_Fx.tr (q_Fx.rf S) (fxX6_push e15)
    refine q_goto 186 (by decide) dX6_move_94 ?_
    obtain rfl := Option.some.inj h
    exact q_vret rfl dX6_move_186 hQ
  rw [if_neg c11] at h
  by_cases c17 : x1 = (3 : Int32)
  · rw [if_pos c17] at h
    refine q_tabIn (M := mX6_move) (pc := 18) (x := x1) 97 (by rw [c17]; decide) (by rw [c17]; decide) (by rw [c17]; rfl) (by decide) dX6_move_18 ?_
    refine q_aload_n 2 rfl rfl dX6_move_97 ?_
    refine q_getR (q_sh89 w) (by decide) (by decide) rfl lfX6_18 dX6_move_98 (r := 96) (q_wr89_3 w) ?_
    refine q_iload 1 rfl dX6_move_101 ?_
    refine q_aload_n 2 rfl rfl dX6_move_103 ?_
    obtain ⟨r18, e19, h⟩ := q_bind h
    refine q_callV (ci := 6) (d := 1) (Mc := mX6_pop) (kc := 0) (nc := 0) [] okX6_pop (q_sh89 w) (by decide) rfl lmX6_172 inX6_pop seX6_pop rfl (Nat.le_of_ble_eq_true rfl) (Nat.le_of_ble_eq_true rfl) (Nat.le_refl _) (Nat.le_refl _) dX6_move_104 (q_L.deep (by decide) (kX6_pop (Q := fun r S' => r = some (.int r18.1) ∧ S' = r18.2) w e19 ⟨rfl, rfl⟩)) (q_kI ?_)
    have fx20 : q_Fx S r18.2 := q_Fx.tr (q_Fx.rf S) (fxX6_pop e19)
    obtain ⟨hg21, h⟩ := q_guard h
    refine q_iast (q_sh96 (w.fx fx20)) (q_inb_in hg21) dX6_move_107 ?_
    obtain ⟨S22, e23, h⟩ := q_bindS h
    refine q_st e23 ?_
    have fx24 : q_Fx S S22 := e23 ▸ q_Fx.sI (fx20)
    refine q_aload_n 2 rfl rfl dX6_move_108 ?_
    refine q_getR (q_sh89 (w.fx fx24)) (by decide) (by decide) rfl lfX6_22 dX6_move_109 (r := 97) (q_wr89_4 (w.fx fx24)) ?_
    refine q_iload 1 rfl dX6_move_112 ?_
    refine q_aload_n 2 rfl rfl dX6_move_114 ?_
    refine q_getR (q_sh89 (w.fx fx24)) (by decide) (by decide) rfl lfX6_22 dX6_move_115 (r := 97) (q_wr89_4 (w.fx fx24)) ?_
    refine q_iload 0 rfl dX6_move_118 ?_
    refine q_iconst (v := (1 : Int32)) (by decide) dX6_move_120 ?_
    refine q_isub dX6_move_121 ?_
    obtain ⟨hg25, h⟩ := q_guard h
    refine q_bald (q_sh97 (w.fx fx24)) (q_inb_in hg25) dX6_move_122 ?_
    obtain ⟨hg26, h⟩ := q_guard h
    refine q_bast (q_sh97 (w.fx fx24)) (q_inb_in hg26) dX6_move_123 ?_
    obtain ⟨S27, e28, h⟩ := q_bindS h
    refine q_st e28 ?_
    have fx29 : q_Fx S S27 := e28 ▸ q_Fx.sI (fx24)
    refine q_goto 186 (by decide) dX6_move_124 ?_
    obtain rfl := Option.some.inj h
    exact q_vret rfl dX6_move_186 hQ
  rw [if_neg c17] at h
  by_cases c30 : x1 = (4 : Int32)
  · rw [if_pos c30] at h
    refine q_tabIn (M := mX6_move) (pc := 18) (x := x1) 127 (by rw [c30]; decide) (by rw [c30]; decide) (by rw [c30]; rfl) (by decide) dX6_move_18 ?_
    refine q_aload_n 2 rfl rfl dX6_move_127 ?_
    refine q_getR (q_sh89 w) (by decide) (by decide) rfl lfX6_18 dX6_move_128 (r := 96) (q_wr89_3 w) ?_
    refine q_iload 1 rfl dX6_move_131 ?_
    refine q_dup2 rfl rfl dX6_move_133 ?_
    obtain ⟨hg31, h⟩ := q_guard h
    refine q_iald (q_sh96 w) (q_inb_in hg31) dX6_move_134 ?_
    refine q_iload_n 5 rfl rfl dX6_move_135 ?_
    refine q_iadd dX6_move_136 ?_
    obtain ⟨hg32, h⟩ := q_guard h
    refine q_iast (q_sh96 w) (q_inb_in hg32) dX6_move_137 ?_
    obtain ⟨S33, e34, h⟩ := q_bindS h
    refine q_st e34 ?_
    have fx35 : q_Fx S S33 := e34 ▸ q_Fx.sI (q_Fx.rf S)
    refine q_goto 186 (by decide) dX6_move_138 ?_
    obtain rfl := Option.some.inj h
    exact q_vret rfl dX6_move_186 hQ
  rw [if_neg c30] at h
  by_cases c36 : x1 = (5 : Int32)
  · rw [if_pos c36] at h
    refine q_tabIn (M := mX6_move) (pc := 18) (x := x1) 141 (by rw [c36]; decide) (by rw [c36]; decide) (by rw [c36]; rfl) (by decide) dX6_move_18 ?_
    refine q_aload_n 2 rfl rfl dX6_move_141 ?_
    refine q_aload_n 2 rfl rfl dX6_move_142 ?_
    refine q_getR (q_sh89 w) (by decide) (by decide) rfl lfX6_18 dX6_move_143 (r := 96) (q_wr89_3 w) ?_
    refine q_iload 0 rfl dX6_move_146 ?_
    refine q_iconst (v := (1 : Int32)) (by decide) dX6_move_148 ?_
    refine q_isub dX6_move_149 ?_
    obtain ⟨hg37, h⟩ := q_guard h
    refine q_iald (q_sh96 w) (q_inb_in hg37) dX6_move_150 ?_
    refine q_aload_n 2 rfl rfl dX6_move_151 ?_
    refine q_getR (q_sh89 w) (by decide) (by decide) rfl lfX6_22 dX6_move_152 (r := 97) (q_wr89_4 w) ?_
    refine q_iload 0 rfl dX6_move_155 ?_
    refine q_iconst (v := (1 : Int32)) (by decide) dX6_move_157 ?_
    refine q_isub dX6_move_158 ?_
    obtain ⟨hg38, h⟩ := q_guard h
    refine q_bald (q_sh97 w) (q_inb_in hg38) dX6_move_159 ?_
    obtain ⟨r39, e40, h⟩ := q_bind h
    refine q_callV (ci := 6) (d := 1) (Mc := mX6_push) (kc := 0) (nc := 0) [.int (S.2.1 96 (r1 - (1 : Int32)).toNatClampNeg), .int (S.2.1 97 (r1 - (1 : Int32)).toNatClampNeg)] okX6_push (q_sh89 w) (by decide) rfl lmX6_160 inX6_push seX6_push rfl (Nat.le_of_ble_eq_true rfl) (Nat.le_of_ble_eq_true rfl) (Nat.le_refl _) (Nat.le_refl _) dX6_move_160 (q_L.deep (by decide) (kX6_push (Q := fun r S' => r = none ∧ S' = r39) w e40 ⟨rfl, rfl⟩)) (q_kV ?_)
    have fx41 : q_Fx S r39 := q_Fx.tr (q_Fx.rf S) (fxX6_push e40)
    refine q_goto 186 (by decide) dX6_move_163 ?_
    obtain rfl := Option.some.inj h
    exact q_vret rfl dX6_move_186 hQ
  rw [if_neg c36] at h
  by_cases c42 : x1 = (6 : Int32)
  · rw [if_pos c42] at h
    refine q_tabIn (M := mX6_move) (pc := 18) (x := x1) 166 (by rw [c42]; decide) (by rw [c42]; decide) (by rw [c42]; rfl) (by decide) dX6_move_18 ?_
    refine q_aload_n 2 rfl rfl dX6_move_166 ?_
    obtain ⟨r43, e44, h⟩ := q_bind h
    refine q_callV (ci := 6) (d := 1) (Mc := mX6_pop) (kc := 0) (nc := 0) [] okX6_pop (q_sh89 w) (by decide) rfl lmX6_172 inX6_pop seX6_pop rfl (Nat.le_of_ble_eq_true rfl) (Nat.le_of_ble_eq_true rfl) (Nat.le_refl _) (Nat.le_refl _) dX6_move_167 (q_L.deep (by decide) (kX6_pop (Q := fun r S' => r = some (.int r43.1) ∧ S' = r43.2) w e44 ⟨rfl, rfl⟩)) (q_kI ?_)
    have fx45 : q_Fx S r43.2 := q_Fx.tr (q_Fx.rf S) (fxX6_pop e44)
    refine q_pop rfl dX6_move_170 ?_
    refine q_goto 186 (by decide) dX6_move_171 ?_
    obtain rfl := Option.some.inj h
    exact q_vret rfl dX6_move_186 hQ
  rw [if_neg c42] at h
  refine q_tabOut (M := mX6_move) (pc := 18) (x := x1) 174 (by have := lv_neT (a := 0) c3 (by decide); have := lv_neT (a := 1) c7 (by decide); have := lv_neT (a := 2) c11 (by decide); have := lv_neT (a := 3) c17 (by decide); have := lv_neT (a := 4) c30 (by decide); have := lv_neT (a := 5) c36 (by decide); have := lv_neT (a := 6) c42 (by decide); omega) (by decide) dX6_move_18 ?_
  refine q_aload_n 2 rfl rfl dX6_move_174 ?_
  refine q_iload 0 rfl dX6_move_175 ?_
  refine q_iconst (v := (2 : Int32)) (by decide) dX6_move_177 ?_
  refine q_isub dX6_move_178 ?_
  refine q_iload 0 rfl dX6_move_179 ?_
  refine q_iconst (v := (1 : Int32)) (by decide) dX6_move_181 ?_
  refine q_isub dX6_move_182 ?_
  obtain ⟨r46, e47, h⟩ := q_bind h
  refine q_callV (ci := 6) (d := 1) (Mc := mX6_swap) (kc := 0) (nc := 0) [.int (r1 - (2 : Int32)), .int (r1 - (1 : Int32))] okX6_swap (q_sh89 w) (by decide) rfl lmX6_175 inX6_swap seX6_swap rfl (Nat.le_of_ble_eq_true rfl) (Nat.le_of_ble_eq_true rfl) (Nat.le_refl _) (Nat.le_refl _) dX6_move_183 (q_L.deep (by decide) (kX6_swap (Q := fun r S' => r = none ∧ S' = r46) w e47 ⟨rfl, rfl⟩)) (q_kV ?_)
  have fx48 : q_Fx S r46 := q_Fx.tr (q_Fx.rf S) (fxX6_swap e47)
  obtain rfl := Option.some.inj h
  exact q_vret rfl dX6_move_186 hQ
set_option maxRecDepth 20000 in
theorem kX6_raise {S : QS} {g : QG} {Q : Option Value → QS → Prop}  {x1 : Int32} {r : QS} (w : q_Wire S) (h : fX6_raise S x1 = some r) (hQ : Q none r) : q_M g mX6_raise 3 0 0 [.ref 89, .int x1] S Q := by
  unfold fX6_raise at h
  show q_L g mX6_raise 3 0 0 Q 0 0 0 [(0, .ref 89), (1, .int x1)] [] S
  refine q_aload_n 0 rfl rfl dX6_raise_0 ?_
  refine q_aload_n 0 rfl rfl dX6_raise_1 ?_
  refine q_getR (q_sh89 w) (by decide) (by decide) rfl lfX6_12 dX6_raise_2 (r := 90) (q_wr89_2 w) ?_
  refine q_iload_n 1 rfl rfl dX6_raise_5 ?_
  refine q_iconst (v := (0 : Int32)) (by decide) dX6_raise_6 ?_
  refine q_bipush (v := (48 : Int32)) (by decide) dX6_raise_7 ?_
  refine q_iload_n 1 rfl rfl dX6_raise_9 ?_
  refine q_iadd dX6_raise_10 ?_
  refine q_iconst (v := (2 : Int32)) (by decide) dX6_raise_11 ?_
  refine q_isub dX6_raise_12 ?_
  obtain ⟨r1, e2, h⟩ := q_bind h
  refine q_callV (ci := 2) (d := 2) (Mc := mX2_make) (kc := 0) (nc := 0) [.int x1, .int (0 : Int32), .int (((48 : Int32) + x1) - (2 : Int32))] okX2_make (q_sh90 w) (by decide) rfl lmX6_212 inX2_make seX2_make rfl (Nat.le_of_ble_eq_true rfl) (Nat.le_of_ble_eq_true rfl) (Nat.le_refl _) (Nat.le_refl _) dX6_raise_13 (q_L.deep (by decide) (kX2_make (Q := fun r S' => r = some (.int r1.1) ∧ S' = r1.2) w e2 ⟨rfl, rfl⟩)) (q_kI ?_)
  have fx3 : q_Fx S r1.2 := q_Fx.tr (q_Fx.rf S) (fxX2_make e2)
  refine q_putI (q_sh89 (w.fx fx3)) (by decide) (by decide) rfl rfl ⟨rfl, rfl⟩ lfX6_74 dX6_raise_16 ?_
  obtain ⟨S4, e5, h⟩ := q_bindS h
  refine q_st e5 ?_
  have fx6 : q_Fx S S4 := e5 ▸ q_Fx.sI (fx3)
  refine q_aload_n 0 rfl rfl dX6_raise_19 ?_
  refine q_getI (q_sh89 (w.fx fx6)) (by decide) (by decide) rfl lfX6_74 dX6_raise_20 ?_
  refine q_if_ne 31 (by decide) dX6_raise_23 (fun c => ?_) (fun c => ?_)
  · rw [if_neg c] at h
    obtain rfl := Option.some.inj h
    exact q_vret rfl dX6_raise_31 hQ
  · rw [if_pos c] at h
    refine q_aload_n 0 rfl rfl dX6_raise_26 ?_
    refine q_iconst (v := (3 : Int32)) (by decide) dX6_raise_27 ?_
    refine q_putI (q_sh89 (w.fx fx6)) (by decide) (by decide) rfl rfl ⟨rfl, rfl⟩ lfX6_71 dX6_raise_28 ?_
    obtain ⟨S7, e8, h⟩ := q_bindS h
    refine q_st e8 ?_
    have fx9 : q_Fx S S7 := e8 ▸ q_Fx.sI (fx6)
    obtain rfl := Option.some.inj h
    exact q_vret rfl dX6_raise_31 hQ
set_option maxRecDepth 20000 in
theorem kX6_calculate_45 {S : QS} {g : QG} {Q : Option Value → QS → Prop}  {y1 : Int32} {y2 : Int32} {y3 : Int32} {r : QS} (w : q_Wire S) (h : fX6_calculate_45 S y1 y2 y3 = some r) (hQ : Q none r) : q_L g mX6_calculate 4 0 0 Q 0 0 45 [(0, .ref 89), (1, .int y1), (2, .int y2), (3, .int y3)] [] S := by
  unfold fX6_calculate_45 at h
  refine q_iload_n 1 rfl rfl dX6_calculate_45 ?_
  by_cases c1 : y1 = (8 : Int32)
  · rw [if_pos c1] at h
    refine q_tabIn (M := mX6_calculate) (pc := 46) (x := y1) 96 (by rw [c1]; decide) (by rw [c1]; decide) (by rw [c1]; rfl) (by decide) dX6_calculate_46 ?_
    refine q_aload_n 0 rfl rfl dX6_calculate_96 ?_
    refine q_iload_n 3 rfl rfl dX6_calculate_97 ?_
    refine q_iload_n 2 rfl rfl dX6_calculate_98 ?_
    refine q_iadd dX6_calculate_99 ?_
    obtain ⟨r2, e3, h⟩ := q_bind h
    refine q_callV (ci := 6) (d := 3) (Mc := mX6_pushInt) (kc := 0) (nc := 0) [.int (y3 + y2)] okX6_pushInt (q_sh89 w) (by decide) rfl lmX6_166 inX6_pushInt seX6_pushInt rfl (Nat.le_of_ble_eq_true rfl) (Nat.le_of_ble_eq_true rfl) (Nat.le_refl _) (Nat.le_refl _) dX6_calculate_100 (q_L.deep (by decide) (kX6_pushInt (Q := fun r S' => r = none ∧ S' = r2) w e3 ⟨rfl, rfl⟩)) (q_kV ?_)
    have fx4 : q_Fx S r2 := q_Fx.tr (q_Fx.rf S) (fxX6_pushInt e3)
    refine q_goto 193 (by decide) dX6_calculate_103 ?_
    obtain rfl := Option.some.inj h
    exact q_vret rfl dX6_calculate_193 hQ
  rw [if_neg c1] at h
  by_cases c5 : y1 = (9 : Int32)
  · rw [if_pos c5] at h
    refine q_tabIn (M := mX6_calculate) (pc := 46) (x := y1) 106 (by rw [c5]; decide) (by rw [c5]; decide) (by rw [c5]; rfl) (by decide) dX6_calculate_46 ?_
    refine q_aload_n 0 rfl rfl dX6_calculate_106 ?_
    refine q_iload_n 3 rfl rfl dX6_calculate_107 ?_
    refine q_iload_n 2 rfl rfl dX6_calculate_108 ?_
    refine q_isub dX6_calculate_109 ?_
    obtain ⟨r6, e7, h⟩ := q_bind h
    refine q_callV (ci := 6) (d := 3) (Mc := mX6_pushInt) (kc := 0) (nc := 0) [.int (y3 - y2)] okX6_pushInt (q_sh89 w) (by decide) rfl lmX6_166 inX6_pushInt seX6_pushInt rfl (Nat.le_of_ble_eq_true rfl) (Nat.le_of_ble_eq_true rfl) (Nat.le_refl _) (Nat.le_refl _) dX6_calculate_110 (q_L.deep (by decide) (kX6_pushInt (Q := fun r S' => r = none ∧ S' = r6) w e7 ⟨rfl, rfl⟩)) (q_kV ?_)
    have fx8 : q_Fx S r6 := q_Fx.tr (q_Fx.rf S) (fxX6_pushInt e7)
    refine q_goto 193 (by decide) dX6_calculate_113 ?_
    obtain rfl := Option.some.inj h
    exact q_vret rfl dX6_calculate_193 hQ
  rw [if_neg c5] at h
  by_cases c9 : y1 = (10 : Int32)
  · rw [if_pos c9] at h
    refine q_tabIn (M := mX6_calculate) (pc := 46) (x := y1) 116 (by rw [c9]; decide) (by rw [c9]; decide) (by rw [c9]; rfl) (by decide) dX6_calculate_46 ?_
    refine q_aload_n 0 rfl rfl dX6_calculate_116 ?_
    refine q_iload_n 3 rfl rfl dX6_calculate_117 ?_
    refine q_iload_n 2 rfl rfl dX6_calculate_118 ?_
    refine q_imul dX6_calculate_119 ?_
    obtain ⟨r10, e11, h⟩ := q_bind h
    refine q_callV (ci := 6) (d := 3) (Mc := mX6_pushInt) (kc := 0) (nc := 0) [.int (y3 * y2)] okX6_pushInt (q_sh89 w) (by decide) rfl lmX6_166 inX6_pushInt seX6_pushInt rfl (Nat.le_of_ble_eq_true rfl) (Nat.le_of_ble_eq_true rfl) (Nat.le_refl _) (Nat.le_refl _) dX6_calculate_120 (q_L.deep (by decide) (kX6_pushInt (Q := fun r S' => r = none ∧ S' = r10) w e11 ⟨rfl, rfl⟩)) (q_kV ?_)
    have fx12 : q_Fx S r10 := q_Fx.tr (q_Fx.rf S) (fxX6_pushInt e11)
    refine q_goto 193 (by decide) dX6_calculate_123 ?_
    obtain rfl := Option.some.inj h
    exact q_vret rfl dX6_calculate_193 hQ
  rw [if_neg c9] at h
  by_cases c13 : y1 = (11 : Int32)
  · rw [if_pos c13] at h
    refine q_tabIn (M := mX6_calculate) (pc := 46) (x := y1) 126 (by rw [c13]; decide) (by rw [c13]; decide) (by rw [c13]; rfl) (by decide) dX6_calculate_46 ?_
    refine q_aload_n 0 rfl rfl dX6_calculate_126 ?_
    refine q_iload_n 3 rfl rfl dX6_calculate_127 ?_
    refine q_iload_n 2 rfl rfl dX6_calculate_128 ?_
    obtain ⟨hg14, h⟩ := q_guard h
    refine q_idiv hg14 dX6_calculate_129 ?_
    obtain ⟨r15, e16, h⟩ := q_bind h
    refine q_callV (ci := 6) (d := 3) (Mc := mX6_pushInt) (kc := 0) (nc := 0) [.int (y3 / y2)] okX6_pushInt (q_sh89 w) (by decide) rfl lmX6_166 inX6_pushInt seX6_pushInt rfl (Nat.le_of_ble_eq_true rfl) (Nat.le_of_ble_eq_true rfl) (Nat.le_refl _) (Nat.le_refl _) dX6_calculate_130 (q_L.deep (by decide) (kX6_pushInt (Q := fun r S' => r = none ∧ S' = r15) w e16 ⟨rfl, rfl⟩)) (q_kV ?_)
    have fx17 : q_Fx S r15 := q_Fx.tr (q_Fx.rf S) (fxX6_pushInt e16)
    refine q_goto 193 (by decide) dX6_calculate_133 ?_
    obtain rfl := Option.some.inj h
    exact q_vret rfl dX6_calculate_193 hQ
  rw [if_neg c13] at h
  by_cases c18 : y1 = (12 : Int32)
  · rw [if_pos c18] at h
    refine q_tabIn (M := mX6_calculate) (pc := 46) (x := y1) 136 (by rw [c18]; decide) (by rw [c18]; decide) (by rw [c18]; rfl) (by decide) dX6_calculate_46 ?_
    refine q_aload_n 0 rfl rfl dX6_calculate_136 ?_
    refine q_iload_n 3 rfl rfl dX6_calculate_137 ?_
    refine q_iload_n 2 rfl rfl dX6_calculate_138 ?_
    obtain ⟨hg19, h⟩ := q_guard h
    refine q_irem hg19 dX6_calculate_139 ?_
    obtain ⟨r20, e21, h⟩ := q_bind h
    refine q_callV (ci := 6) (d := 3) (Mc := mX6_pushInt) (kc := 0) (nc := 0) [.int (y3 - y3 / y2 * y2)] okX6_pushInt (q_sh89 w) (by decide) rfl lmX6_166 inX6_pushInt seX6_pushInt rfl (Nat.le_of_ble_eq_true rfl) (Nat.le_of_ble_eq_true rfl) (Nat.le_refl _) (Nat.le_refl _) dX6_calculate_140 (q_L.deep (by decide) (kX6_pushInt (Q := fun r S' => r = none ∧ S' = r20) w e21 ⟨rfl, rfl⟩)) (q_kV ?_)
    have fx22 : q_Fx S r20 := q_Fx.tr (q_Fx.rf S) (fxX6_pushInt e21)
    refine q_goto 193 (by decide) dX6_calculate_143 ?_
    obtain rfl := Option.some.inj h
    exact q_vret rfl dX6_calculate_193 hQ
  rw [if_neg c18] at h
  by_cases c23 : y1 = (13 : Int32)
  · rw [if_pos c23] at h
    refine q_tabIn (M := mX6_calculate) (pc := 46) (x := y1) 146 (by rw [c23]; decide) (by rw [c23]; decide) (by rw [c23]; rfl) (by decide) dX6_calculate_46 ?_
    refine q_aload_n 0 rfl rfl dX6_calculate_146 ?_
    refine q_iload_n 3 rfl rfl dX6_calculate_147 ?_
    refine q_iload_n 2 rfl rfl dX6_calculate_148 ?_
    refine q_iand dX6_calculate_149 ?_
    obtain ⟨r24, e25, h⟩ := q_bind h
    refine q_callV (ci := 6) (d := 3) (Mc := mX6_pushInt) (kc := 0) (nc := 0) [.int (y3 &&& y2)] okX6_pushInt (q_sh89 w) (by decide) rfl lmX6_166 inX6_pushInt seX6_pushInt rfl (Nat.le_of_ble_eq_true rfl) (Nat.le_of_ble_eq_true rfl) (Nat.le_refl _) (Nat.le_refl _) dX6_calculate_150 (q_L.deep (by decide) (kX6_pushInt (Q := fun r S' => r = none ∧ S' = r24) w e25 ⟨rfl, rfl⟩)) (q_kV ?_)
    have fx26 : q_Fx S r24 := q_Fx.tr (q_Fx.rf S) (fxX6_pushInt e25)
    refine q_goto 193 (by decide) dX6_calculate_153 ?_
    obtain rfl := Option.some.inj h
    exact q_vret rfl dX6_calculate_193 hQ
  rw [if_neg c23] at h
  by_cases c27 : y1 = (14 : Int32)
  · rw [if_pos c27] at h
    refine q_tabIn (M := mX6_calculate) (pc := 46) (x := y1) 156 (by rw [c27]; decide) (by rw [c27]; decide) (by rw [c27]; rfl) (by decide) dX6_calculate_46 ?_
    refine q_aload_n 0 rfl rfl dX6_calculate_156 ?_
    refine q_iload_n 3 rfl rfl dX6_calculate_157 ?_
    refine q_iload_n 2 rfl rfl dX6_calculate_158 ?_
    refine q_ior dX6_calculate_159 ?_
    obtain ⟨r28, e29, h⟩ := q_bind h
    refine q_callV (ci := 6) (d := 3) (Mc := mX6_pushInt) (kc := 0) (nc := 0) [.int (y3 ||| y2)] okX6_pushInt (q_sh89 w) (by decide) rfl lmX6_166 inX6_pushInt seX6_pushInt rfl (Nat.le_of_ble_eq_true rfl) (Nat.le_of_ble_eq_true rfl) (Nat.le_refl _) (Nat.le_refl _) dX6_calculate_160 (q_L.deep (by decide) (kX6_pushInt (Q := fun r S' => r = none ∧ S' = r28) w e29 ⟨rfl, rfl⟩)) (q_kV ?_)
    have fx30 : q_Fx S r28 := q_Fx.tr (q_Fx.rf S) (fxX6_pushInt e29)
    refine q_goto 193 (by decide) dX6_calculate_163 ?_
    obtain rfl := Option.some.inj h
    exact q_vret rfl dX6_calculate_193 hQ
  rw [if_neg c27] at h
  by_cases c31 : y1 = (15 : Int32)
  · rw [if_pos c31] at h
    refine q_tabIn (M := mX6_calculate) (pc := 46) (x := y1) 166 (by rw [c31]; decide) (by rw [c31]; decide) (by rw [c31]; rfl) (by decide) dX6_calculate_46 ?_
    refine q_aload_n 0 rfl rfl dX6_calculate_166 ?_
    refine q_iload_n 3 rfl rfl dX6_calculate_167 ?_
    refine q_iload_n 2 rfl rfl dX6_calculate_168 ?_
    refine q_ixor dX6_calculate_169 ?_
    obtain ⟨r32, e33, h⟩ := q_bind h
    refine q_callV (ci := 6) (d := 3) (Mc := mX6_pushInt) (kc := 0) (nc := 0) [.int (y3 ^^^ y2)] okX6_pushInt (q_sh89 w) (by decide) rfl lmX6_166 inX6_pushInt seX6_pushInt rfl (Nat.le_of_ble_eq_true rfl) (Nat.le_of_ble_eq_true rfl) (Nat.le_refl _) (Nat.le_refl _) dX6_calculate_170 (q_L.deep (by decide) (kX6_pushInt (Q := fun r S' => r = none ∧ S' = r32) w e33 ⟨rfl, rfl⟩)) (q_kV ?_)
    have fx34 : q_Fx S r32 := q_Fx.tr (q_Fx.rf S) (fxX6_pushInt e33)
    refine q_goto 193 (by decide) dX6_calculate_173 ?_
    obtain rfl := Option.some.inj h
    exact q_vret rfl dX6_calculate_193 hQ
  rw [if_neg c31] at h
  by_cases c35 : y1 = (16 : Int32)
  · rw [if_pos c35] at h
    refine q_tabIn (M := mX6_calculate) (pc := 46) (x := y1) 176 (by rw [c35]; decide) (by rw [c35]; decide) (by rw [c35]; rfl) (by decide) dX6_calculate_46 ?_
    refine q_aload_n 0 rfl rfl dX6_calculate_176 ?_
    refine q_iload_n 3 rfl rfl dX6_calculate_177 ?_
    refine q_iload_n 2 rfl rfl dX6_calculate_178 ?_
    refine q_ishl dX6_calculate_179 ?_
    obtain ⟨r36, e37, h⟩ := q_bind h
    refine q_callV (ci := 6) (d := 3) (Mc := mX6_pushInt) (kc := 0) (nc := 0) [.int (y3 <<< (y2 &&& 31))] okX6_pushInt (q_sh89 w) (by decide) rfl lmX6_166 inX6_pushInt seX6_pushInt rfl (Nat.le_of_ble_eq_true rfl) (Nat.le_of_ble_eq_true rfl) (Nat.le_refl _) (Nat.le_refl _) dX6_calculate_180 (q_L.deep (by decide) (kX6_pushInt (Q := fun r S' => r = none ∧ S' = r36) w e37 ⟨rfl, rfl⟩)) (q_kV ?_)
    have fx38 : q_Fx S r36 := q_Fx.tr (q_Fx.rf S) (fxX6_pushInt e37)
    refine q_goto 193 (by decide) dX6_calculate_183 ?_
    obtain rfl := Option.some.inj h
    exact q_vret rfl dX6_calculate_193 hQ
  rw [if_neg c35] at h
  refine q_tabOut (M := mX6_calculate) (pc := 46) (x := y1) 186 (by have := lv_neT (a := 8) c1 (by decide); have := lv_neT (a := 9) c5 (by decide); have := lv_neT (a := 10) c9 (by decide); have := lv_neT (a := 11) c13 (by decide); have := lv_neT (a := 12) c18 (by decide); have := lv_neT (a := 13) c23 (by decide); have := lv_neT (a := 14) c27 (by decide); have := lv_neT (a := 15) c31 (by decide); have := lv_neT (a := 16) c35 (by decide); omega) (by decide) dX6_calculate_46 ?_
  refine q_aload_n 0 rfl rfl dX6_calculate_186 ?_
  refine q_iload_n 3 rfl rfl dX6_calculate_187 ?_
  refine q_iload_n 2 rfl rfl dX6_calculate_188 ?_
  refine q_ishr dX6_calculate_189 ?_
  obtain ⟨r39, e40, h⟩ := q_bind h
  refine q_callV (ci := 6) (d := 3) (Mc := mX6_pushInt) (kc := 0) (nc := 0) [.int (y3 >>> (y2 &&& 31))] okX6_pushInt (q_sh89 w) (by decide) rfl lmX6_166 inX6_pushInt seX6_pushInt rfl (Nat.le_of_ble_eq_true rfl) (Nat.le_of_ble_eq_true rfl) (Nat.le_refl _) (Nat.le_refl _) dX6_calculate_190 (q_L.deep (by decide) (kX6_pushInt (Q := fun r S' => r = none ∧ S' = r39) w e40 ⟨rfl, rfl⟩)) (q_kV ?_)
  have fx41 : q_Fx S r39 := q_Fx.tr (q_Fx.rf S) (fxX6_pushInt e40)
  obtain rfl := Option.some.inj h
  exact q_vret rfl dX6_calculate_193 hQ
set_option maxRecDepth 20000 in
theorem kX6_calculate_35 {S : QS} {g : QG} {Q : Option Value → QS → Prop}  {y1 : Int32} {y2 : Int32} {y3 : Int32} {r : QS} (w : q_Wire S) (h : fX6_calculate_35 S y1 y2 y3 = some r) (hQ : Q none r) : q_L g mX6_calculate 4 0 0 Q 0 0 35 [(0, .ref 89), (1, .int y1), (2, .int y2), (3, .int y3)] [] S := by
  unfold fX6_calculate_35 at h
  refine q_iload_n 2 rfl rfl dX6_calculate_35 ?_
  refine q_if_ne 45 (by decide) dX6_calculate_36 (fun c => ?_) (fun c => ?_)
  · rw [if_neg c] at h
    refine q_sub [0, 1, 2, 3] rfl ?_
    exact kX6_calculate_45 w h hQ
  · rw [if_pos c] at h
    refine q_aload_n 0 rfl rfl dX6_calculate_39 ?_
    refine q_iconst (v := (5 : Int32)) (by decide) dX6_calculate_40 ?_
    obtain ⟨r42, e43, h⟩ := q_bind h
    refine q_callV (ci := 6) (d := 3) (Mc := mX6_raise) (kc := 0) (nc := 0) [.int (5 : Int32)] okX6_raise (q_sh89 w) (by decide) rfl lmX6_178 inX6_raise seX6_raise rfl (Nat.le_of_ble_eq_true rfl) (Nat.le_of_ble_eq_true rfl) (Nat.le_refl _) (Nat.le_refl _) dX6_calculate_41 (q_L.deep (by decide) (kX6_raise (Q := fun r S' => r = none ∧ S' = r42) w e43 ⟨rfl, rfl⟩)) (q_kV ?_)
    have fx44 : q_Fx S r42 := q_Fx.tr (q_Fx.rf S) (fxX6_raise e43)
    obtain rfl := Option.some.inj h
    exact q_vret rfl dX6_calculate_44 hQ
set_option maxRecDepth 20000 in
theorem kX6_calculate {S : QS} {g : QG} {Q : Option Value → QS → Prop}  {x1 : Int32} {r : QS} (w : q_Wire S) (h : fX6_calculate S x1 = some r) (hQ : Q none r) : q_M g mX6_calculate 4 0 0 [.ref 89, .int x1] S Q := by
  unfold fX6_calculate at h
  show q_L g mX6_calculate 4 0 0 Q 0 0 0 [(0, .ref 89), (1, .int x1)] [] S
  refine q_aload_n 0 rfl rfl dX6_calculate_0 ?_
  obtain ⟨r45, e46, h⟩ := q_bind h
  refine q_callV (ci := 6) (d := 3) (Mc := mX6_pop) (kc := 0) (nc := 0) [] okX6_pop (q_sh89 w) (by decide) rfl lmX6_172 inX6_pop seX6_pop rfl (Nat.le_of_ble_eq_true rfl) (Nat.le_of_ble_eq_true rfl) (Nat.le_refl _) (Nat.le_refl _) dX6_calculate_1 (q_L.deep (by decide) (kX6_pop (Q := fun r S' => r = some (.int r45.1) ∧ S' = r45.2) w e46 ⟨rfl, rfl⟩)) (q_kI ?_)
  have fx47 : q_Fx S r45.2 := q_Fx.tr (q_Fx.rf S) (fxX6_pop e46)
  refine q_istore_n [(2, .int r45.1), (0, .ref 89), (1, .int x1)] rfl (by decide) rfl dX6_calculate_4 ?_
  refine q_iload_n 2 rfl rfl dX6_calculate_5 ?_
  refine q_bipush (v := (18 : Int32)) (by decide) dX6_calculate_6 ?_
  refine q_icmp_ne 18 (by decide) dX6_calculate_8 (fun c => ?_) (fun c => ?_)
  · rw [if_neg c] at h
    refine q_aload_n 1 rfl rfl dX6_calculate_18 ?_
    obtain ⟨r48, e49, h⟩ := q_bind h
    refine q_callV (ci := 6) (d := 3) (Mc := mX6_pop) (kc := 0) (nc := 0) [] okX6_pop (q_sh89 (w.fx fx47)) (by decide) rfl lmX6_172 inX6_pop seX6_pop rfl (Nat.le_of_ble_eq_true rfl) (Nat.le_of_ble_eq_true rfl) (Nat.le_refl _) (Nat.le_refl _) dX6_calculate_19 (q_L.deep (by decide) (kX6_pop (Q := fun r S' => r = some (.int r48.1) ∧ S' = r48.2) (w.fx fx47) e49 ⟨rfl, rfl⟩)) (q_kI ?_)
    have fx50 : q_Fx S r48.2 := q_Fx.tr (fx47) (fxX6_pop e49)
    refine q_istore_n [(3, .int r48.1), (2, .int r45.1), (0, .ref 89), (1, .int x1)] rfl (by decide) rfl dX6_calculate_22 ?_
    refine q_iload_n 3 rfl rfl dX6_calculate_23 ?_
    refine q_bipush (v := (11 : Int32)) (by decide) dX6_calculate_24 ?_
    refine q_icmp_eq 35 (by decide) dX6_calculate_26 (fun c => ?_) (fun c => ?_)
    · rw [if_pos c] at h
      refine q_sub [2, 3, 1, 0] rfl ?_
      exact kX6_calculate_35 (w.fx fx50) h hQ
    · rw [if_neg c] at h
      refine q_iload_n 3 rfl rfl dX6_calculate_29 ?_
      refine q_bipush (v := (12 : Int32)) (by decide) dX6_calculate_30 ?_
      refine q_icmp_ne 45 (by decide) dX6_calculate_32 (fun c => ?_) (fun c => ?_)
      · rw [if_neg c] at h
        refine q_sub [2, 3, 1, 0] rfl ?_
        exact kX6_calculate_45 (w.fx fx50) h hQ
      · rw [if_pos c] at h
        refine q_sub [2, 3, 1, 0] rfl ?_
        exact kX6_calculate_35 (w.fx fx50) h hQ
  · rw [if_pos c] at h
    refine q_aload_n 1 rfl rfl dX6_calculate_11 ?_
    refine q_iload_n 0 rfl rfl dX6_calculate_12 ?_
    refine q_ineg dX6_calculate_13 ?_
    obtain ⟨r51, e52, h⟩ := q_bind h
    refine q_callV (ci := 6) (d := 3) (Mc := mX6_pushInt) (kc := 0) (nc := 0) [.int (-r45.1)] okX6_pushInt (q_sh89 (w.fx fx47)) (by decide) rfl lmX6_166 inX6_pushInt seX6_pushInt rfl (Nat.le_of_ble_eq_true rfl) (Nat.le_of_ble_eq_true rfl) (Nat.le_refl _) (Nat.le_refl _) dX6_calculate_14 (q_L.deep (by decide) (kX6_pushInt (Q := fun r S' => r = none ∧ S' = r51) (w.fx fx47) e52 ⟨rfl, rfl⟩)) (q_kV ?_)
    have fx53 : q_Fx S r51 := q_Fx.tr (fx47) (fxX6_pushInt e52)
    obtain rfl := Option.some.inj h
    exact q_vret rfl dX6_calculate_17 hQ
set_option maxRecDepth 20000 in
theorem kX6_decide {S : QS} {g : QG} {Q : Option Value → QS → Prop}  {x1 : Int32} {x2 : Int32} {r : QS} (w : q_Wire S) (h : fX6_decide S x1 x2 = some r) (hQ : Q none r) : q_M g mX6_decide 2 0 0 [.ref 89, .int x1, .int x2] S Q := by
  unfold fX6_decide at h
  show q_L g mX6_decide 2 0 0 Q 0 0 0 [(0, .ref 89), (1, .int x1), (2, .int x2)] [] S
  refine q_iload_n 1 rfl rfl dX6_decide_0 ?_
  refine q_bipush (v := (19 : Int32)) (by decide) dX6_decide_1 ?_
  obtain ⟨v4, hv, h⟩ := q_bind h
  have fx5 : q_Fx S v4.2 := by
    replace h := hv
    by_cases c : x1 = (19 : Int32)
    · rw [if_pos c] at h
      obtain rfl := Option.some.inj h
      exact q_Fx.rf _
    · rw [if_neg c] at h
      obtain ⟨r1, e2, h⟩ := q_bind h
      have fx3 : q_Fx S r1.2 := q_Fx.tr (q_Fx.rf S) (fxX6_pop e2)
      obtain rfl := Option.some.inj h
      exact fx3
  have K1 : q_L g mX6_decide 2 0 0 Q 0 0 14 [(0, .ref 89), (1, .int x1), (2, .int x2)] [.int v4.1] v4.2 := by
    refine q_istore_n [(3, .int v4.1), (0, .ref 89), (1, .int x1), (2, .int x2)] rfl (by decide) rfl dX6_decide_14 ?_
    refine q_iload_n 2 rfl rfl dX6_decide_15 ?_
    refine q_bipush (v := (19 : Int32)) (by decide) dX6_decide_16 ?_
    obtain ⟨v9, hv, h⟩ := q_bind h
    have fx10 : q_Fx S v9.2 := by
      replace h := hv
      by_cases c : x1 = (19 : Int32)
      · rw [if_pos c] at h
        obtain rfl := Option.some.inj h
        exact fx5
      · rw [if_neg c] at h
        by_cases c : x1 = (26 : Int32)
        · rw [if_pos c] at h
          obtain rfl := Option.some.inj h
          exact fx5
        · rw [if_neg c] at h
          by_cases c : x1 = (27 : Int32)
          · rw [if_pos c] at h
            obtain rfl := Option.some.inj h
            exact fx5
          · rw [if_neg c] at h
            obtain ⟨r6, e7, h⟩ := q_bind h
            have fx8 : q_Fx S r6.2 := q_Fx.tr (fx5) (fxX6_pop e7)
            obtain rfl := Option.some.inj h
            exact fx8
    have K2 : q_L g mX6_decide 2 0 0 Q 0 0 41 [(0, .ref 89), (1, .int x1), (2, .int x2), (3, .int v4.1)] [.int v9.1] v9.2 := by
      refine q_istore [(4, .int v9.1), (0, .ref 89), (1, .int x1), (2, .int x2), (3, .int v4.1)] (by decide) rfl dX6_decide_41 ?_
      refine q_iload_n 2 rfl rfl dX6_decide_43 ?_
      obtain ⟨v31, hv, h⟩ := q_bind h
      have K3 : q_L g mX6_decide 2 0 0 Q 0 0 227 [(0, .ref 89), (2, .int x2), (5, .int (q_b v31))] [] v9.2 := by
        refine q_iload 2 rfl dX6_decide_227 ?_
        refine q_if_eq 242 (by decide) dX6_decide_229 (fun c => ?_) (fun c => ?_)
        · have c := q_b_0.mp c; rw [q_if0 c] at h
          obtain rfl := Option.some.inj h
          exact q_vret rfl dX6_decide_242 hQ
        · have c := q_b_n.mp c; rw [q_if1 c] at h
          refine q_aload_n 0 rfl rfl dX6_decide_232 ?_
          refine q_getR (q_sh89 (w.fx fx10)) (by decide) (by decide) rfl lfX6_26 dX6_decide_233 (r := 98) (q_wr89_5 (w.fx fx10)) ?_
          refine q_aload_n 0 rfl rfl dX6_decide_236 ?_
          refine q_getI (q_sh89 (w.fx fx10)) (by decide) (by decide) rfl lfX6_77 dX6_decide_237 ?_
          refine q_iload_n 1 rfl rfl dX6_decide_240 ?_
          obtain ⟨hg32, h⟩ := q_guard h
          refine q_iast (q_sh98 (w.fx fx10)) (q_inb_in hg32) dX6_decide_241 ?_
          obtain ⟨S33, e34, h⟩ := q_bindS h
          refine q_st e34 ?_
          have fx35 : q_Fx S S33 := e34 ▸ q_Fx.sI (fx10)
          obtain rfl := Option.some.inj h
          exact q_vret rfl dX6_decide_242 hQ
      replace h := hv
      by_cases c11 : x1 = (20 : Int32) ∨ x1 = (28 : Int32)
      · rw [if_pos c11] at h
        have K : ∀ (hK : True), q_L g mX6_decide 2 0 0 Q 0 0 100 [(4, .int v9.1), (0, .ref 89), (1, .int x1), (2, .int x2), (3, .int v4.1)] [] v9.2 := by
          intro _
          refine q_iload 0 rfl dX6_decide_100 ?_
          refine q_iload_n 4 rfl rfl dX6_decide_102 ?_
          obtain ⟨v12, hv, h⟩ := q_bind h
          have K4 : q_L g mX6_decide 2 0 0 Q 0 0 111 [(0, .ref 89), (2, .int x2)] [.int (q_b v12)] v9.2 := by
            refine q_istore [(5, .int (q_b v12)), (0, .ref 89), (2, .int x2)] (by decide) rfl dX6_decide_111 ?_
            refine q_goto 227 (by decide) dX6_decide_113 ?_
            obtain rfl := Option.some.inj h
            refine q_sub [1, 2, 0] rfl ?_
            exact K3
          replace h := hv
          refine q_icmp_ne 110 (by decide) dX6_decide_103 (fun c => ?_) (fun c => ?_)
          · rw [if_neg c] at h
            refine q_iconst (v := (0 : Int32)) (by decide) dX6_decide_110 ?_
            obtain rfl := Option.some.inj h
            refine q_sub [1, 3] rfl ?_
            exact K4
          · rw [if_pos c] at h
            refine q_iconst (v := (1 : Int32)) (by decide) dX6_decide_106 ?_
            refine q_goto 111 (by decide) dX6_decide_107 ?_
            obtain rfl := Option.some.inj h
            refine q_sub [1, 3] rfl ?_
            exact K4
        rcases c11 with c11 | c11
        · exact q_tabIn (M := mX6_decide) (pc := 44) (x := x1) 100 (by rw [c11]; decide) (by rw [c11]; decide) (by rw [c11]; rfl) (by decide) dX6_decide_44 (K trivial)
        · exact q_tabIn (M := mX6_decide) (pc := 44) (x := x1) 100 (by rw [c11]; decide) (by rw [c11]; decide) (by rw [c11]; rfl) (by decide) dX6_decide_44 (K trivial)
      rw [if_neg c11] at h
      by_cases c13 : x1 = (21 : Int32) ∨ x1 = (29 : Int32)
      · rw [if_pos c13] at h
        have K : ∀ (hK : True), q_L g mX6_decide 2 0 0 Q 0 0 116 [(4, .int v9.1), (0, .ref 89), (1, .int x1), (2, .int x2), (3, .int v4.1)] [] v9.2 := by
          intro _
          refine q_iload 0 rfl dX6_decide_116 ?_
          refine q_iload_n 4 rfl rfl dX6_decide_118 ?_
          obtain ⟨v14, hv, h⟩ := q_bind h
          have K5 : q_L g mX6_decide 2 0 0 Q 0 0 127 [(0, .ref 89), (2, .int x2)] [.int (q_b v14)] v9.2 := by
            refine q_istore [(5, .int (q_b v14)), (0, .ref 89), (2, .int x2)] (by decide) rfl dX6_decide_127 ?_
            refine q_goto 227 (by decide) dX6_decide_129 ?_
            obtain rfl := Option.some.inj h
            refine q_sub [1, 2, 0] rfl ?_
            exact K3
          replace h := hv
          refine q_icmp_eq 126 (by decide) dX6_decide_119 (fun c => ?_) (fun c => ?_)
          · rw [if_pos c] at h
            refine q_iconst (v := (0 : Int32)) (by decide) dX6_decide_126 ?_
            obtain rfl := Option.some.inj h
            refine q_sub [1, 3] rfl ?_
            exact K5
          · rw [if_neg c] at h
            refine q_iconst (v := (1 : Int32)) (by decide) dX6_decide_122 ?_
            refine q_goto 127 (by decide) dX6_decide_123 ?_
            obtain rfl := Option.some.inj h
            refine q_sub [1, 3] rfl ?_
            exact K5
        rcases c13 with c13 | c13
        · exact q_tabIn (M := mX6_decide) (pc := 44) (x := x1) 116 (by rw [c13]; decide) (by rw [c13]; decide) (by rw [c13]; rfl) (by decide) dX6_decide_44 (K trivial)
        · exact q_tabIn (M := mX6_decide) (pc := 44) (x := x1) 116 (by rw [c13]; decide) (by rw [c13]; decide) (by rw [c13]; rfl) (by decide) dX6_decide_44 (K trivial)
      rw [if_neg c13] at h
      by_cases c15 : x1 = (22 : Int32)
      · rw [if_pos c15] at h
        refine q_tabIn (M := mX6_decide) (pc := 44) (x := x1) 132 (by rw [c15]; decide) (by rw [c15]; decide) (by rw [c15]; rfl) (by decide) dX6_decide_44 ?_
        refine q_iload 0 rfl dX6_decide_132 ?_
        refine q_iload_n 4 rfl rfl dX6_decide_134 ?_
        obtain ⟨v16, hv, h⟩ := q_bind h
        have K6 : q_L g mX6_decide 2 0 0 Q 0 0 143 [(0, .ref 89), (2, .int x2)] [.int (q_b v16)] v9.2 := by
          refine q_istore [(5, .int (q_b v16)), (0, .ref 89), (2, .int x2)] (by decide) rfl dX6_decide_143 ?_
          refine q_goto 227 (by decide) dX6_decide_145 ?_
          obtain rfl := Option.some.inj h
          refine q_sub [1, 2, 0] rfl ?_
          exact K3
        replace h := hv
        refine q_icmp_ge 142 (by decide) dX6_decide_135 (fun c => ?_) (fun c => ?_)
        · rw [if_pos c] at h
          refine q_iconst (v := (0 : Int32)) (by decide) dX6_decide_142 ?_
          obtain rfl := Option.some.inj h
          refine q_sub [1, 3] rfl ?_
          exact K6
        · rw [if_neg c] at h
          refine q_iconst (v := (1 : Int32)) (by decide) dX6_decide_138 ?_
          refine q_goto 143 (by decide) dX6_decide_139 ?_
          obtain rfl := Option.some.inj h
          refine q_sub [1, 3] rfl ?_
          exact K6
      rw [if_neg c15] at h
      by_cases c17 : x1 = (23 : Int32)
      · rw [if_pos c17] at h
        refine q_tabIn (M := mX6_decide) (pc := 44) (x := x1) 148 (by rw [c17]; decide) (by rw [c17]; decide) (by rw [c17]; rfl) (by decide) dX6_decide_44 ?_
        refine q_iload 0 rfl dX6_decide_148 ?_
        refine q_iload_n 4 rfl rfl dX6_decide_150 ?_
        obtain ⟨v18, hv, h⟩ := q_bind h
        have K7 : q_L g mX6_decide 2 0 0 Q 0 0 159 [(0, .ref 89), (2, .int x2)] [.int (q_b v18)] v9.2 := by
          refine q_istore [(5, .int (q_b v18)), (0, .ref 89), (2, .int x2)] (by decide) rfl dX6_decide_159 ?_
          refine q_goto 227 (by decide) dX6_decide_161 ?_
          obtain rfl := Option.some.inj h
          refine q_sub [1, 2, 0] rfl ?_
          exact K3
        replace h := hv
        refine q_icmp_gt 158 (by decide) dX6_decide_151 (fun c => ?_) (fun c => ?_)
        · rw [if_pos c] at h
          refine q_iconst (v := (0 : Int32)) (by decide) dX6_decide_158 ?_
          obtain rfl := Option.some.inj h
          refine q_sub [1, 3] rfl ?_
          exact K7
        · rw [if_neg c] at h
          refine q_iconst (v := (1 : Int32)) (by decide) dX6_decide_154 ?_
          refine q_goto 159 (by decide) dX6_decide_155 ?_
          obtain rfl := Option.some.inj h
          refine q_sub [1, 3] rfl ?_
          exact K7
      rw [if_neg c17] at h
      by_cases c19 : x1 = (24 : Int32)
      · rw [if_pos c19] at h
        refine q_tabIn (M := mX6_decide) (pc := 44) (x := x1) 164 (by rw [c19]; decide) (by rw [c19]; decide) (by rw [c19]; rfl) (by decide) dX6_decide_44 ?_
        refine q_iload 0 rfl dX6_decide_164 ?_
        refine q_iload_n 4 rfl rfl dX6_decide_166 ?_
        obtain ⟨v20, hv, h⟩ := q_bind h
        have K8 : q_L g mX6_decide 2 0 0 Q 0 0 175 [(0, .ref 89), (2, .int x2)] [.int (q_b v20)] v9.2 := by
          refine q_istore [(5, .int (q_b v20)), (0, .ref 89), (2, .int x2)] (by decide) rfl dX6_decide_175 ?_
          refine q_goto 227 (by decide) dX6_decide_177 ?_
          obtain rfl := Option.some.inj h
          refine q_sub [1, 2, 0] rfl ?_
          exact K3
        replace h := hv
        refine q_icmp_le 174 (by decide) dX6_decide_167 (fun c => ?_) (fun c => ?_)
        · rw [if_pos c] at h
          refine q_iconst (v := (0 : Int32)) (by decide) dX6_decide_174 ?_
          obtain rfl := Option.some.inj h
          refine q_sub [1, 3] rfl ?_
          exact K8
        · rw [if_neg c] at h
          refine q_iconst (v := (1 : Int32)) (by decide) dX6_decide_170 ?_
          refine q_goto 175 (by decide) dX6_decide_171 ?_
          obtain rfl := Option.some.inj h
          refine q_sub [1, 3] rfl ?_
          exact K8
      rw [if_neg c19] at h
      by_cases c21 : x1 = (25 : Int32)
      · rw [if_pos c21] at h
        refine q_tabIn (M := mX6_decide) (pc := 44) (x := x1) 180 (by rw [c21]; decide) (by rw [c21]; decide) (by rw [c21]; rfl) (by decide) dX6_decide_44 ?_
        refine q_iload 0 rfl dX6_decide_180 ?_
        refine q_iload_n 4 rfl rfl dX6_decide_182 ?_
        obtain ⟨v22, hv, h⟩ := q_bind h
        have K9 : q_L g mX6_decide 2 0 0 Q 0 0 191 [(0, .ref 89), (2, .int x2)] [.int (q_b v22)] v9.2 := by
          refine q_istore [(5, .int (q_b v22)), (0, .ref 89), (2, .int x2)] (by decide) rfl dX6_decide_191 ?_
          refine q_goto 227 (by decide) dX6_decide_193 ?_
          obtain rfl := Option.some.inj h
          refine q_sub [1, 2, 0] rfl ?_
          exact K3
        replace h := hv
        refine q_icmp_lt 190 (by decide) dX6_decide_183 (fun c => ?_) (fun c => ?_)
        · rw [if_pos c] at h
          refine q_iconst (v := (0 : Int32)) (by decide) dX6_decide_190 ?_
          obtain rfl := Option.some.inj h
          refine q_sub [1, 3] rfl ?_
          exact K9
        · rw [if_neg c] at h
          refine q_iconst (v := (1 : Int32)) (by decide) dX6_decide_186 ?_
          refine q_goto 191 (by decide) dX6_decide_187 ?_
          obtain rfl := Option.some.inj h
          refine q_sub [1, 3] rfl ?_
          exact K9
      rw [if_neg c21] at h
      by_cases c23 : x1 = (26 : Int32)
      · rw [if_pos c23] at h
        refine q_tabIn (M := mX6_decide) (pc := 44) (x := x1) 196 (by rw [c23]; decide) (by rw [c23]; decide) (by rw [c23]; rfl) (by decide) dX6_decide_44 ?_
        refine q_iload_n 4 rfl rfl dX6_decide_196 ?_
        obtain ⟨v24, hv, h⟩ := q_bind h
        have K10 : q_L g mX6_decide 2 0 0 Q 0 0 205 [(0, .ref 89), (2, .int x2)] [.int (q_b v24)] v9.2 := by
          refine q_istore [(5, .int (q_b v24)), (0, .ref 89), (2, .int x2)] (by decide) rfl dX6_decide_205 ?_
          refine q_goto 227 (by decide) dX6_decide_207 ?_
          obtain rfl := Option.some.inj h
          refine q_sub [1, 2, 0] rfl ?_
          exact K3
        replace h := hv
        refine q_if_ne 204 (by decide) dX6_decide_197 (fun c => ?_) (fun c => ?_)
        · rw [if_neg c] at h
          refine q_iconst (v := (0 : Int32)) (by decide) dX6_decide_204 ?_
          obtain rfl := Option.some.inj h
          refine q_sub [1, 3] rfl ?_
          exact K10
        · rw [if_pos c] at h
          refine q_iconst (v := (1 : Int32)) (by decide) dX6_decide_200 ?_
          refine q_goto 205 (by decide) dX6_decide_201 ?_
          obtain rfl := Option.some.inj h
          refine q_sub [1, 3] rfl ?_
          exact K10
      rw [if_neg c23] at h
      by_cases c25 : x1 = (27 : Int32)
      · rw [if_pos c25] at h
        refine q_tabIn (M := mX6_decide) (pc := 44) (x := x1) 210 (by rw [c25]; decide) (by rw [c25]; decide) (by rw [c25]; rfl) (by decide) dX6_decide_44 ?_
        refine q_iload_n 4 rfl rfl dX6_decide_210 ?_
        obtain ⟨v26, hv, h⟩ := q_bind h
        have K11 : q_L g mX6_decide 2 0 0 Q 0 0 219 [(0, .ref 89), (2, .int x2)] [.int (q_b v26)] v9.2 := by
          refine q_istore [(5, .int (q_b v26)), (0, .ref 89), (2, .int x2)] (by decide) rfl dX6_decide_219 ?_
          refine q_goto 227 (by decide) dX6_decide_221 ?_
          obtain rfl := Option.some.inj h
          refine q_sub [1, 2, 0] rfl ?_
          exact K3
        replace h := hv
        refine q_if_eq 218 (by decide) dX6_decide_211 (fun c => ?_) (fun c => ?_)
        · rw [if_pos c] at h
          refine q_iconst (v := (0 : Int32)) (by decide) dX6_decide_218 ?_
          obtain rfl := Option.some.inj h
          refine q_sub [1, 3] rfl ?_
          exact K11
        · rw [if_neg c] at h
          refine q_iconst (v := (1 : Int32)) (by decide) dX6_decide_214 ?_
          refine q_goto 219 (by decide) dX6_decide_215 ?_
          obtain rfl := Option.some.inj h
          refine q_sub [1, 3] rfl ?_
          exact K11
      rw [if_neg c25] at h
      have n27 : ¬ x1 = (20 : Int32) := (fun q => c11 (Or.inl q))
      have n28 : ¬ x1 = (28 : Int32) := (fun q => c11 (Or.inr (q)))
      have n29 : ¬ x1 = (21 : Int32) := (fun q => c13 (Or.inl q))
      have n30 : ¬ x1 = (29 : Int32) := (fun q => c13 (Or.inr (q)))
      refine q_tabOut (M := mX6_decide) (pc := 44) (x := x1) 224 (by have := lv_neT (a := 20) n27 (by decide); have := lv_neT (a := 28) n28 (by decide); have := lv_neT (a := 21) n29 (by decide); have := lv_neT (a := 29) n30 (by decide); have := lv_neT (a := 22) c15 (by decide); have := lv_neT (a := 23) c17 (by decide); have := lv_neT (a := 24) c19 (by decide); have := lv_neT (a := 25) c21 (by decide); have := lv_neT (a := 26) c23 (by decide); have := lv_neT (a := 27) c25 (by decide); omega) (by decide) dX6_decide_44 ?_
      refine q_iconst (v := (1 : Int32)) (by decide) dX6_decide_224 ?_
      refine q_istore [(5, .int (1 : Int32)), (4, .int v9.1), (0, .ref 89), (1, .int x1), (2, .int x2), (3, .int v4.1)] (by decide) rfl dX6_decide_225 ?_
      obtain rfl := Option.some.inj h
      refine q_sub [2, 4, 0] rfl ?_
      exact K3
    replace h := hv
    refine q_icmp_eq 33 (by decide) dX6_decide_18 (fun c => ?_) (fun c => ?_)
    · rw [if_pos c] at h
      refine q_iconst (v := (0 : Int32)) (by decide) dX6_decide_33 ?_
      refine q_goto 41 (by decide) dX6_decide_34 ?_
      obtain rfl := Option.some.inj h
      refine q_sub [1, 2, 3, 0] rfl ?_
      exact K2
    · rw [if_neg c] at h
      refine q_iload_n 2 rfl rfl dX6_decide_21 ?_
      refine q_bipush (v := (26 : Int32)) (by decide) dX6_decide_22 ?_
      refine q_icmp_eq 33 (by decide) dX6_decide_24 (fun c => ?_) (fun c => ?_)
      · rw [if_pos c] at h
        refine q_iconst (v := (0 : Int32)) (by decide) dX6_decide_33 ?_
        refine q_goto 41 (by decide) dX6_decide_34 ?_
        obtain rfl := Option.some.inj h
        refine q_sub [1, 2, 3, 0] rfl ?_
        exact K2
      · rw [if_neg c] at h
        refine q_iload_n 2 rfl rfl dX6_decide_27 ?_
        refine q_bipush (v := (27 : Int32)) (by decide) dX6_decide_28 ?_
        refine q_icmp_ne 37 (by decide) dX6_decide_30 (fun c => ?_) (fun c => ?_)
        · rw [if_neg c] at h
          refine q_aload_n 1 rfl rfl dX6_decide_37 ?_
          obtain ⟨r6, e7, h⟩ := q_bind h
          refine q_callV (ci := 6) (d := 1) (Mc := mX6_pop) (kc := 0) (nc := 0) [] okX6_pop (q_sh89 (w.fx fx5)) (by decide) rfl lmX6_172 inX6_pop seX6_pop rfl (Nat.le_of_ble_eq_true rfl) (Nat.le_of_ble_eq_true rfl) (Nat.le_refl _) (Nat.le_refl _) dX6_decide_38 (q_L.deep (by decide) (kX6_pop (Q := fun r S' => r = some (.int r6.1) ∧ S' = r6.2) (w.fx fx5) e7 ⟨rfl, rfl⟩)) (q_kI ?_)
          have fx8 : q_Fx S r6.2 := q_Fx.tr (fx5) (fxX6_pop e7)
          obtain rfl := Option.some.inj h
          refine q_sub [1, 2, 3, 0] rfl ?_
          exact K2
        · rw [if_pos c] at h
          refine q_iconst (v := (0 : Int32)) (by decide) dX6_decide_33 ?_
          refine q_goto 41 (by decide) dX6_decide_34 ?_
          obtain rfl := Option.some.inj h
          refine q_sub [1, 2, 3, 0] rfl ?_
          exact K2
  replace h := hv
  refine q_icmp_ne 10 (by decide) dX6_decide_3 (fun c => ?_) (fun c => ?_)
  · rw [if_neg c] at h
    refine q_aload_n 0 rfl rfl dX6_decide_10 ?_
    obtain ⟨r1, e2, h⟩ := q_bind h
    refine q_callV (ci := 6) (d := 1) (Mc := mX6_pop) (kc := 0) (nc := 0) [] okX6_pop (q_sh89 w) (by decide) rfl lmX6_172 inX6_pop seX6_pop rfl (Nat.le_of_ble_eq_true rfl) (Nat.le_of_ble_eq_true rfl) (Nat.le_refl _) (Nat.le_refl _) dX6_decide_11 (q_L.deep (by decide) (kX6_pop (Q := fun r S' => r = some (.int r1.1) ∧ S' = r1.2) w e2 ⟨rfl, rfl⟩)) (q_kI ?_)
    have fx3 : q_Fx S r1.2 := q_Fx.tr (q_Fx.rf S) (fxX6_pop e2)
    obtain rfl := Option.some.inj h
    refine q_sub [0, 1, 2] rfl ?_
    exact K1
  · rw [if_pos c] at h
    refine q_iconst (v := (0 : Int32)) (by decide) dX6_decide_6 ?_
    refine q_goto 14 (by decide) dX6_decide_7 ?_
    obtain rfl := Option.some.inj h
    refine q_sub [0, 1, 2] rfl ?_
    exact K1
set_option maxRecDepth 20000 in
theorem kX6_pushMade {S : QS} {g : QG} {Q : Option Value → QS → Prop}  {x1 : Int32} {x2 : Int32} {x3 : Int32} {r : QS} (w : q_Wire S) (h : fX6_pushMade S x1 x2 x3 = some r) (hQ : Q none r) : q_M g mX6_pushMade 3 0 0 [.ref 89, .int x1, .int x2, .int x3] S Q := by
  unfold fX6_pushMade at h
  show q_L g mX6_pushMade 3 0 0 Q 0 0 0 [(0, .ref 89), (1, .int x1), (2, .int x2), (3, .int x3)] [] S
  refine q_aload_n 0 rfl rfl dX6_pushMade_0 ?_
  refine q_getR (q_sh89 w) (by decide) (by decide) rfl lfX6_12 dX6_pushMade_1 (r := 90) (q_wr89_2 w) ?_
  refine q_iload_n 1 rfl rfl dX6_pushMade_4 ?_
  refine q_iload_n 2 rfl rfl dX6_pushMade_5 ?_
  refine q_iload_n 3 rfl rfl dX6_pushMade_6 ?_
  obtain ⟨r1, e2, h⟩ := q_bind h
  refine q_callV (ci := 2) (d := 2) (Mc := mX2_make) (kc := 0) (nc := 0) [.int x1, .int x2, .int x3] okX2_make (q_sh90 w) (by decide) rfl lmX6_212 inX2_make seX2_make rfl (Nat.le_of_ble_eq_true rfl) (Nat.le_of_ble_eq_true rfl) (Nat.le_refl _) (Nat.le_refl _) dX6_pushMade_7 (q_L.deep (by decide) (kX2_make (Q := fun r S' => r = some (.int r1.1) ∧ S' = r1.2) w e2 ⟨rfl, rfl⟩)) (q_kI ?_)
  have fx3 : q_Fx S r1.2 := q_Fx.tr (q_Fx.rf S) (fxX2_make e2)
  refine q_istore [(4, .int r1.1), (0, .ref 89), (1, .int x1), (2, .int x2), (3, .int x3)] (by decide) rfl dX6_pushMade_10 ?_
  refine q_iload 0 rfl dX6_pushMade_12 ?_
  refine q_if_ne 25 (by decide) dX6_pushMade_14 (fun c => ?_) (fun c => ?_)
  · rw [if_neg c] at h
    refine q_aload_n 1 rfl rfl dX6_pushMade_25 ?_
    refine q_iload 0 rfl dX6_pushMade_26 ?_
    obtain ⟨r4, e5, h⟩ := q_bind h
    refine q_callV (ci := 6) (d := 2) (Mc := mX6_pushObject) (kc := 0) (nc := 0) [.int r1.1] okX6_pushObject (q_sh89 (w.fx fx3)) (by decide) rfl lmX6_169 inX6_pushObject seX6_pushObject rfl (Nat.le_of_ble_eq_true rfl) (Nat.le_of_ble_eq_true rfl) (Nat.le_refl _) (Nat.le_refl _) dX6_pushMade_28 (q_L.deep (by decide) (kX6_pushObject (Q := fun r S' => r = none ∧ S' = r4) (w.fx fx3) e5 ⟨rfl, rfl⟩)) (q_kV ?_)
    have fx6 : q_Fx S r4 := q_Fx.tr (fx3) (fxX6_pushObject e5)
    obtain rfl := Option.some.inj h
    exact q_vret rfl dX6_pushMade_31 hQ
  · rw [if_pos c] at h
    refine q_aload_n 1 rfl rfl dX6_pushMade_17 ?_
    refine q_iconst (v := (3 : Int32)) (by decide) dX6_pushMade_18 ?_
    refine q_putI (q_sh89 (w.fx fx3)) (by decide) (by decide) rfl rfl ⟨rfl, rfl⟩ lfX6_71 dX6_pushMade_19 ?_
    obtain ⟨S7, e8, h⟩ := q_bindS h
    refine q_st e8 ?_
    have fx9 : q_Fx S S7 := e8 ▸ q_Fx.sI (fx3)
    refine q_goto 31 (by decide) dX6_pushMade_22 ?_
    obtain rfl := Option.some.inj h
    exact q_vret rfl dX6_pushMade_31 hQ
