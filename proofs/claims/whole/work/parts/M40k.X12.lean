set_option maxRecDepth 20000 in
theorem kX12_reckon_36 {S : QS} {g : QG} {Q : Option Value → QS → Prop} {qs : Nat} {q : Nat} {y1 : Int32} {y3 : Int32} {y4 : Int32} {r : QS} (w : q_Wire S) (hq : q_qok q) (aM : q_aM S q qs) (h : fX12_reckon_36 S q y1 y3 y4 = some r) (hQ : Q none r) : q_L g mX12_reckon 4 0 0 Q 0 0 36 [(0, .ref 102), (1, .int y1), (3, .int y3), (4, .int y4)] [] S := by
  unfold fX12_reckon_36 at h
  refine q_aload_n 0 rfl rfl dX12_reckon_36 ?_
  refine q_iload_n 1 rfl rfl dX12_reckon_37 ?_
  refine q_bipush (v := (8 : Int32)) (by decide) dX12_reckon_38 ?_
  obtain ⟨v3, hv, h⟩ := q_bind h
  have K1 : q_L g mX12_reckon 4 0 0 Q 0 0 174 [(0, .ref 102)] [.long v3, .ref 102] S := by
    obtain ⟨r4, e5, h⟩ := q_bind h
    refine q_callV (ci := 12) (d := 3) (Mc := mX12_push) (kc := 0) (nc := 0) [.long v3] okX12_push (q_sh102 w) (by decide) rfl lmX12_582 inX12_push seX12_push rfl (Nat.le_of_ble_eq_true rfl) (Nat.le_of_ble_eq_true rfl) (Nat.le_refl _) (Nat.le_refl _) dX12_reckon_174 (q_L.deep (by decide) (kX12_push (Q := fun r S' => r = none ∧ S' = r4) w e5 ⟨rfl, rfl⟩)) (q_kV ?_)
    have fx6 : q_Fx S r4 := q_Fx.tr (q_Fx.rf S) (fxX12_push e5)
    refine q_aload_n 0 rfl rfl dX12_reckon_177 ?_
    obtain ⟨r7, e8, h⟩ := q_bind h
    refine q_callV (ci := 12) (d := 3) (Mc := mX12_next) (kc := 0) (nc := 0) [] okX12_next (q_sh102 (w.fx fx6)) (by decide) rfl lmX12_600 inX12_next seX12_next rfl (Nat.le_of_ble_eq_true rfl) (Nat.le_of_ble_eq_true rfl) (Nat.le_refl _) (Nat.le_refl _) dX12_reckon_178 (q_L.deep (by decide) (kX12_next (Q := fun r S' => r = none ∧ S' = r7) (w.fx fx6) e8 ⟨rfl, rfl⟩)) (q_kV ?_)
    have fx9 : q_Fx S r7 := q_Fx.tr (fx6) (fxX12_next e8)
    obtain rfl := Option.some.inj h
    exact q_vret rfl dX12_reckon_181 hQ
  replace h := hv
  refine q_icmp_ne 51 (by decide) dX12_reckon_40 (fun c => ?_) (fun c => ?_)
  · rw [if_neg c] at h
    refine q_iload_n 1 rfl rfl dX12_reckon_51 ?_
    refine q_bipush (v := (9 : Int32)) (by decide) dX12_reckon_52 ?_
    refine q_icmp_ne 65 (by decide) dX12_reckon_54 (fun c => ?_) (fun c => ?_)
    · rw [if_neg c] at h
      refine q_iload_n 1 rfl rfl dX12_reckon_65 ?_
      refine q_bipush (v := (10 : Int32)) (by decide) dX12_reckon_66 ?_
      refine q_icmp_ne 79 (by decide) dX12_reckon_68 (fun c => ?_) (fun c => ?_)
      · rw [if_neg c] at h
        refine q_iload_n 1 rfl rfl dX12_reckon_79 ?_
        refine q_bipush (v := (11 : Int32)) (by decide) dX12_reckon_80 ?_
        refine q_icmp_ne 93 (by decide) dX12_reckon_82 (fun c => ?_) (fun c => ?_)
        · rw [if_neg c] at h
          refine q_iload_n 1 rfl rfl dX12_reckon_93 ?_
          refine q_bipush (v := (12 : Int32)) (by decide) dX12_reckon_94 ?_
          refine q_icmp_ne 107 (by decide) dX12_reckon_96 (fun c => ?_) (fun c => ?_)
          · rw [if_neg c] at h
            refine q_iload_n 1 rfl rfl dX12_reckon_107 ?_
            refine q_bipush (v := (13 : Int32)) (by decide) dX12_reckon_108 ?_
            refine q_icmp_ne 121 (by decide) dX12_reckon_110 (fun c => ?_) (fun c => ?_)
            · rw [if_neg c] at h
              refine q_iload_n 1 rfl rfl dX12_reckon_121 ?_
              refine q_bipush (v := (14 : Int32)) (by decide) dX12_reckon_122 ?_
              refine q_icmp_ne 135 (by decide) dX12_reckon_124 (fun c => ?_) (fun c => ?_)
              · rw [if_neg c] at h
                refine q_iload_n 1 rfl rfl dX12_reckon_135 ?_
                refine q_bipush (v := (15 : Int32)) (by decide) dX12_reckon_136 ?_
                refine q_icmp_ne 149 (by decide) dX12_reckon_138 (fun c => ?_) (fun c => ?_)
                · rw [if_neg c] at h
                  refine q_iload_n 1 rfl rfl dX12_reckon_149 ?_
                  refine q_bipush (v := (16 : Int32)) (by decide) dX12_reckon_150 ?_
                  refine q_icmp_ne 166 (by decide) dX12_reckon_152 (fun c => ?_) (fun c => ?_)
                  · rw [if_neg c] at h
                    refine q_iload 3 rfl dX12_reckon_166 ?_
                    refine q_iload_n 2 rfl rfl dX12_reckon_168 ?_
                    refine q_bipush (v := (31 : Int32)) (by decide) dX12_reckon_169 ?_
                    refine q_iand dX12_reckon_171 ?_
                    refine q_ishr dX12_reckon_172 ?_
                    refine q_i2l dX12_reckon_173 ?_
                    obtain rfl := Option.some.inj h
                    refine q_sub [0] rfl ?_
                    exact K1
                  · rw [if_pos c] at h
                    refine q_iload 3 rfl dX12_reckon_155 ?_
                    refine q_iload_n 2 rfl rfl dX12_reckon_157 ?_
                    refine q_bipush (v := (31 : Int32)) (by decide) dX12_reckon_158 ?_
                    refine q_iand dX12_reckon_160 ?_
                    refine q_ishl dX12_reckon_161 ?_
                    refine q_i2l dX12_reckon_162 ?_
                    refine q_goto 174 (by decide) dX12_reckon_163 ?_
                    obtain rfl := Option.some.inj h
                    refine q_sub [0] rfl ?_
                    exact K1
                · rw [if_pos c] at h
                  refine q_iload 3 rfl dX12_reckon_141 ?_
                  refine q_iload_n 2 rfl rfl dX12_reckon_143 ?_
                  refine q_ixor dX12_reckon_144 ?_
                  refine q_i2l dX12_reckon_145 ?_
                  refine q_goto 174 (by decide) dX12_reckon_146 ?_
                  obtain rfl := Option.some.inj h
                  refine q_sub [0] rfl ?_
                  exact K1
              · rw [if_pos c] at h
                refine q_iload 3 rfl dX12_reckon_127 ?_
                refine q_iload_n 2 rfl rfl dX12_reckon_129 ?_
                refine q_ior dX12_reckon_130 ?_
                refine q_i2l dX12_reckon_131 ?_
                refine q_goto 174 (by decide) dX12_reckon_132 ?_
                obtain rfl := Option.some.inj h
                refine q_sub [0] rfl ?_
                exact K1
            · rw [if_pos c] at h
              refine q_iload 3 rfl dX12_reckon_113 ?_
              refine q_iload_n 2 rfl rfl dX12_reckon_115 ?_
              refine q_iand dX12_reckon_116 ?_
              refine q_i2l dX12_reckon_117 ?_
              refine q_goto 174 (by decide) dX12_reckon_118 ?_
              obtain rfl := Option.some.inj h
              refine q_sub [0] rfl ?_
              exact K1
          · rw [if_pos c] at h
            refine q_iload 3 rfl dX12_reckon_99 ?_
            refine q_iload_n 2 rfl rfl dX12_reckon_101 ?_
            obtain ⟨hg1, h⟩ := q_guard h
            refine q_irem hg1 dX12_reckon_102 ?_
            refine q_i2l dX12_reckon_103 ?_
            refine q_goto 174 (by decide) dX12_reckon_104 ?_
            obtain rfl := Option.some.inj h
            refine q_sub [0] rfl ?_
            exact K1
        · rw [if_pos c] at h
          refine q_iload 3 rfl dX12_reckon_85 ?_
          refine q_iload_n 2 rfl rfl dX12_reckon_87 ?_
          obtain ⟨hg2, h⟩ := q_guard h
          refine q_idiv hg2 dX12_reckon_88 ?_
          refine q_i2l dX12_reckon_89 ?_
          refine q_goto 174 (by decide) dX12_reckon_90 ?_
          obtain rfl := Option.some.inj h
          refine q_sub [0] rfl ?_
          exact K1
      · rw [if_pos c] at h
        refine q_iload 3 rfl dX12_reckon_71 ?_
        refine q_iload_n 2 rfl rfl dX12_reckon_73 ?_
        refine q_imul dX12_reckon_74 ?_
        refine q_i2l dX12_reckon_75 ?_
        refine q_goto 174 (by decide) dX12_reckon_76 ?_
        obtain rfl := Option.some.inj h
        refine q_sub [0] rfl ?_
        exact K1
    · rw [if_pos c] at h
      refine q_iload 3 rfl dX12_reckon_57 ?_
      refine q_iload_n 2 rfl rfl dX12_reckon_59 ?_
      refine q_isub dX12_reckon_60 ?_
      refine q_i2l dX12_reckon_61 ?_
      refine q_goto 174 (by decide) dX12_reckon_62 ?_
      obtain rfl := Option.some.inj h
      refine q_sub [0] rfl ?_
      exact K1
  · rw [if_pos c] at h
    refine q_iload 3 rfl dX12_reckon_43 ?_
    refine q_iload_n 2 rfl rfl dX12_reckon_45 ?_
    refine q_iadd dX12_reckon_46 ?_
    refine q_i2l dX12_reckon_47 ?_
    refine q_goto 174 (by decide) dX12_reckon_48 ?_
    obtain rfl := Option.some.inj h
    refine q_sub [0] rfl ?_
    exact K1
set_option maxRecDepth 20000 in
theorem kX12_reckon_25 {S : QS} {g : QG} {Q : Option Value → QS → Prop} {qs : Nat} {q : Nat} {y1 : Int32} {y2 : Int32} {y3 : Int32} {y4 : Int32} {r : QS} (w : q_Wire S) (hq : q_qok q) (aM : q_aM S q qs) (h : fX12_reckon_25 S q y1 y2 y3 y4 = some r) (hQ : Q none r) : q_L g mX12_reckon 4 0 0 Q 0 0 25 [(0, .ref 102), (1, .int y1), (2, .int y2), (3, .int y3), (4, .int y4)] [] S := by
  unfold fX12_reckon_25 at h
  refine q_iload_n 3 rfl rfl dX12_reckon_25 ?_
  refine q_if_ne 36 (by decide) dX12_reckon_26 (fun c => ?_) (fun c => ?_)
  · rw [if_neg c] at h
    refine q_sub [0, 1, 3, 4] rfl ?_
    exact kX12_reckon_36 w hq (aM) h hQ
  · rw [if_pos c] at h
    refine q_aload_n 0 rfl rfl dX12_reckon_29 ?_
    refine q_iconst (v := (3 : Int32)) (by decide) dX12_reckon_30 ?_
    refine q_iload_n 2 rfl rfl dX12_reckon_31 ?_
    obtain ⟨r10, e11, h⟩ := q_bind h
    refine q_callV (ci := 12) (d := 3) (Mc := mX12_raise) (kc := 0) (nc := 0) [.int (3 : Int32), .int y2] okX12_raise (q_sh102 w) (by decide) rfl lmX12_603 inX12_raise seX12_raise rfl (Nat.le_of_ble_eq_true rfl) (Nat.le_of_ble_eq_true rfl) (Nat.le_refl _) (Nat.le_refl _) dX12_reckon_32 (q_L.deep (by decide) (kX12_raise (Q := fun r S' => r = none ∧ S' = r10) w hq (aM) e11 ⟨rfl, rfl⟩)) (q_kV ?_)
    have fx12 : q_Fx S r10 := q_Fx.tr (q_Fx.rf S) (fxX12_raise e11)
    obtain rfl := Option.some.inj h
    exact q_vret rfl dX12_reckon_35 hQ
set_option maxRecDepth 20000 in
theorem kX12_reckon {S : QS} {g : QG} {Q : Option Value → QS → Prop} {qs : Nat} {q : Nat} {x1 : Int32} {x2 : Int32} {r : QS} (w : q_Wire S) (hq : q_qok q) (aM : q_aM S q qs) (h : fX12_reckon S q x1 x2 = some r) (hQ : Q none r) : q_M g mX12_reckon 4 0 0 [.ref 102, .int x1, .int x2] S Q := by
  unfold fX12_reckon at h
  show q_L g mX12_reckon 4 0 0 Q 0 0 0 [(0, .ref 102), (1, .int x1), (2, .int x2)] [] S
  refine q_aload_n 0 rfl rfl dX12_reckon_0 ?_
  obtain ⟨r13, e14, h⟩ := q_bind h
  refine q_callV (ci := 12) (d := 3) (Mc := mX12_pop) (kc := 0) (nc := 0) [] okX12_pop (q_sh102 w) (by decide) rfl lmX12_586 inX12_pop seX12_pop rfl (Nat.le_of_ble_eq_true rfl) (Nat.le_of_ble_eq_true rfl) (Nat.le_refl _) (Nat.le_refl _) dX12_reckon_1 (q_L.deep (by decide) (kX12_pop (Q := fun r S' => r = some (.long r13.1) ∧ S' = r13.2) w e14 ⟨rfl, rfl⟩)) (q_kJ ?_)
  have fx15 : q_Fx S r13.2 := q_Fx.tr (q_Fx.rf S) (fxX12_pop e14)
  refine q_l2i dX12_reckon_4 ?_
  refine q_istore_n [(3, .int r13.1.toInt32), (0, .ref 102), (1, .int x1), (2, .int x2)] rfl (by decide) rfl dX12_reckon_5 ?_
  refine q_aload_n 1 rfl rfl dX12_reckon_6 ?_
  obtain ⟨r16, e17, h⟩ := q_bind h
  refine q_callV (ci := 12) (d := 3) (Mc := mX12_pop) (kc := 0) (nc := 0) [] okX12_pop (q_sh102 (w.fx fx15)) (by decide) rfl lmX12_586 inX12_pop seX12_pop rfl (Nat.le_of_ble_eq_true rfl) (Nat.le_of_ble_eq_true rfl) (Nat.le_refl _) (Nat.le_refl _) dX12_reckon_7 (q_L.deep (by decide) (kX12_pop (Q := fun r S' => r = some (.long r16.1) ∧ S' = r16.2) (w.fx fx15) e17 ⟨rfl, rfl⟩)) (q_kJ ?_)
  have fx18 : q_Fx S r16.2 := q_Fx.tr (fx15) (fxX12_pop e17)
  refine q_l2i dX12_reckon_10 ?_
  refine q_istore [(4, .int r16.1.toInt32), (3, .int r13.1.toInt32), (0, .ref 102), (1, .int x1), (2, .int x2)] (by decide) rfl dX12_reckon_11 ?_
  refine q_iload_n 3 rfl rfl dX12_reckon_13 ?_
  refine q_bipush (v := (11 : Int32)) (by decide) dX12_reckon_14 ?_
  refine q_icmp_eq 25 (by decide) dX12_reckon_16 (fun c => ?_) (fun c => ?_)
  · rw [if_pos c] at h
    refine q_sub [2, 3, 4, 1, 0] rfl ?_
    exact kX12_reckon_25 (w.fx fx18) hq (aM.fx fx18) h hQ
  · rw [if_neg c] at h
    refine q_iload_n 3 rfl rfl dX12_reckon_19 ?_
    refine q_bipush (v := (12 : Int32)) (by decide) dX12_reckon_20 ?_
    refine q_icmp_ne 36 (by decide) dX12_reckon_22 (fun c => ?_) (fun c => ?_)
    · rw [if_neg c] at h
      refine q_sub [2, 3, 1, 0] rfl ?_
      exact kX12_reckon_36 (w.fx fx18) hq (aM.fx fx18) h hQ
    · rw [if_pos c] at h
      refine q_sub [2, 3, 4, 1, 0] rfl ?_
      exact kX12_reckon_25 (w.fx fx18) hq (aM.fx fx18) h hQ
set_option maxRecDepth 20000 in
theorem kX12_branch {S : QS} {g : QG} {Q : Option Value → QS → Prop}  {x1 : Int32} {x2 : Int32} {r : QS} (w : q_Wire S) (h : fX12_branch S x1 x2 = some r) (hQ : Q none r) : q_M g mX12_branch 1 0 0 [.ref 102, .int x1, .int x2] S Q := by
  unfold fX12_branch at h
  show q_L g mX12_branch 1 0 0 Q 0 0 0 [(0, .ref 102), (1, .int x1), (2, .int x2)] [] S
  refine q_aload_n 0 rfl rfl dX12_branch_0 ?_
  obtain ⟨r1, e2, h⟩ := q_bind h
  refine q_callV (ci := 12) (d := 0) (Mc := mX12_pop) (kc := 0) (nc := 0) [] okX12_pop (q_sh102 w) (by decide) rfl lmX12_586 inX12_pop seX12_pop rfl (Nat.le_of_ble_eq_true rfl) (Nat.le_of_ble_eq_true rfl) (Nat.le_refl _) (Nat.le_refl _) dX12_branch_1 (q_L.deep (by decide) (kX12_pop (Q := fun r S' => r = some (.long r1.1) ∧ S' = r1.2) w e2 ⟨rfl, rfl⟩)) (q_kJ ?_)
  have fx3 : q_Fx S r1.2 := q_Fx.tr (q_Fx.rf S) (fxX12_pop e2)
  refine q_lstore_n [(3, .long r1.1), (0, .ref 102), (1, .int x1), (2, .int x2)] rfl (by decide) rfl dX12_branch_4 ?_
  refine q_iload_n 2 rfl rfl dX12_branch_5 ?_
  refine q_bipush (v := (26 : Int32)) (by decide) dX12_branch_6 ?_
  obtain ⟨v11, hv, h⟩ := q_bind h
  have fx12 : q_Fx S v11.2 := by
    replace h := hv
    by_cases c : x1 = (26 : Int32)
    · rw [if_pos c] at h
      obtain ⟨v4, hv, h⟩ := q_bind h
      obtain ⟨v5, hv, h⟩ := q_bind h
      obtain ⟨v6, hv, h⟩ := q_bind h
      obtain rfl := Option.some.inj h
      exact fx3
    · rw [if_neg c] at h
      by_cases c : x1 = (27 : Int32)
      · rw [if_pos c] at h
        by_cases c : (lg_cmp r1.1 (1099511627776 : Int64)) = 0
        · rw [if_pos c] at h
          by_cases c : x1 = (26 : Int32)
          · rw [if_pos c] at h
            by_cases c : (1 : Int32) = (1 : Int32)
            · rw [if_pos c] at h
              obtain rfl := Option.some.inj h
              exact fx3
            · rw [if_neg c] at h
              obtain rfl := Option.some.inj h
              exact fx3
          · rw [if_neg c] at h
            by_cases c : (1 : Int32) = (0 : Int32)
            · rw [if_pos c] at h
              obtain rfl := Option.some.inj h
              exact fx3
            · rw [if_neg c] at h
              obtain rfl := Option.some.inj h
              exact fx3
        · rw [if_neg c] at h
          by_cases c : x1 = (26 : Int32)
          · rw [if_pos c] at h
            by_cases c : (0 : Int32) = (1 : Int32)
            · rw [if_pos c] at h
              obtain rfl := Option.some.inj h
              exact fx3
            · rw [if_neg c] at h
              obtain rfl := Option.some.inj h
              exact fx3
          · rw [if_neg c] at h
            by_cases c : (0 : Int32) = (0 : Int32)
            · rw [if_pos c] at h
              obtain rfl := Option.some.inj h
              exact fx3
            · rw [if_neg c] at h
              obtain rfl := Option.some.inj h
              exact fx3
      · rw [if_neg c] at h
        obtain ⟨r7, e8, h⟩ := q_bind h
        have fx9 : q_Fx S r7.2 := q_Fx.tr (fx3) (fxX12_pop e8)
        obtain ⟨v10, hv, h⟩ := q_bind h
        obtain rfl := Option.some.inj h
        exact fx9
  have K1 : q_L g mX12_branch 1 0 0 Q 0 0 191 [(0, .ref 102), (2, .int x2), (5, .int (q_b v11.1))] [] v11.2 := by
    refine q_iload 2 rfl dX12_branch_191 ?_
    refine q_if_eq 211 (by decide) dX12_branch_193 (fun c => ?_) (fun c => ?_)
    · have c := q_b_0.mp c; rw [q_if0 c] at h
      refine q_aload_n 0 rfl rfl dX12_branch_211 ?_
      obtain ⟨r13, e14, h⟩ := q_bind h
      refine q_callV (ci := 12) (d := 0) (Mc := mX12_next) (kc := 0) (nc := 0) [] okX12_next (q_sh102 (w.fx fx12)) (by decide) rfl lmX12_600 inX12_next seX12_next rfl (Nat.le_of_ble_eq_true rfl) (Nat.le_of_ble_eq_true rfl) (Nat.le_refl _) (Nat.le_refl _) dX12_branch_212 (q_L.deep (by decide) (kX12_next (Q := fun r S' => r = none ∧ S' = r13) (w.fx fx12) e14 ⟨rfl, rfl⟩)) (q_kV ?_)
      have fx15 : q_Fx S r13 := q_Fx.tr (fx12) (fxX12_next e14)
      obtain rfl := Option.some.inj h
      exact q_vret rfl dX12_branch_215 hQ
    · have c := q_b_n.mp c; rw [q_if1 c] at h
      refine q_aload_n 0 rfl rfl dX12_branch_196 ?_
      refine q_getR (q_sh102 (w.fx fx12)) (by decide) (by decide) rfl lfX12_74 dX12_branch_197 (r := 175) (q_wr102_27 (w.fx fx12)) ?_
      refine q_aload_n 0 rfl rfl dX12_branch_200 ?_
      refine q_getI (q_sh102 (w.fx fx12)) (by decide) (by decide) rfl lfX12_533 dX12_branch_201 ?_
      refine q_iconst (v := (1 : Int32)) (by decide) dX12_branch_204 ?_
      refine q_isub dX12_branch_205 ?_
      refine q_iload_n 1 rfl rfl dX12_branch_206 ?_
      obtain ⟨hg16, h⟩ := q_guard h
      refine q_iast (q_sh175 (w.fx fx12)) (q_inb_in hg16) dX12_branch_207 ?_
      obtain ⟨S17, e18, h⟩ := q_bindS h
      refine q_st e18 ?_
      have fx19 : q_Fx S S17 := e18 ▸ q_Fx.sI (fx12)
      refine q_goto 215 (by decide) dX12_branch_208 ?_
      obtain rfl := Option.some.inj h
      exact q_vret rfl dX12_branch_215 hQ
  replace h := hv
  refine q_icmp_eq 17 (by decide) dX12_branch_8 (fun c => ?_) (fun c => ?_)
  · rw [if_pos c] at h
    refine q_lload_n 0 rfl rfl dX12_branch_17 ?_
    refine q_ldc2 lkX12_553 dX12_branch_18 ?_
    refine q_lcmp dX12_branch_21 ?_
    obtain ⟨v4, hv, h⟩ := q_bind h
    have K2 : q_L g mX12_branch 1 0 0 Q 0 0 30 [(0, .ref 102), (1, .int x1), (2, .int x2)] [.int (q_b v4)] r1.2 := by
      refine q_iload_n 1 rfl rfl dX12_branch_30 ?_
      refine q_bipush (v := (26 : Int32)) (by decide) dX12_branch_31 ?_
      obtain ⟨v5, hv, h⟩ := q_bind h
      have K3 : q_L g mX12_branch 1 0 0 Q 0 0 41 [(0, .ref 102), (2, .int x2)] [.int (q_b v5), .int (q_b v4)] r1.2 := by
        obtain ⟨v6, hv, h⟩ := q_bind h
        have K4 : q_L g mX12_branch 1 0 0 Q 0 0 49 [(0, .ref 102), (2, .int x2)] [.int (q_b v6)] r1.2 := by
          refine q_istore [(5, .int (q_b v6)), (0, .ref 102), (2, .int x2)] (by decide) rfl dX12_branch_49 ?_
          refine q_goto 191 (by decide) dX12_branch_51 ?_
          obtain rfl := Option.some.inj h
          refine q_sub [1, 2, 0] rfl ?_
          exact K1
        replace h := hv
        refine q_icmp_ne 48 (by decide) dX12_branch_41 (fun c => ?_) (fun c => ?_)
        · rw [if_neg c] at h
          refine q_iconst (v := (0 : Int32)) (by decide) dX12_branch_48 ?_
          obtain rfl := Option.some.inj h
          refine q_sub [0, 1] rfl ?_
          exact K4
        · rw [if_pos c] at h
          refine q_iconst (v := (1 : Int32)) (by decide) dX12_branch_44 ?_
          refine q_goto 49 (by decide) dX12_branch_45 ?_
          obtain rfl := Option.some.inj h
          refine q_sub [0, 1] rfl ?_
          exact K4
      replace h := hv
      refine q_icmp_ne 40 (by decide) dX12_branch_33 (fun c => ?_) (fun c => ?_)
      · rw [if_neg c] at h
        refine q_iconst (v := (0 : Int32)) (by decide) dX12_branch_40 ?_
        obtain rfl := Option.some.inj h
        refine q_sub [0, 2] rfl ?_
        exact K3
      · rw [if_pos c] at h
        refine q_iconst (v := (1 : Int32)) (by decide) dX12_branch_36 ?_
        refine q_goto 41 (by decide) dX12_branch_37 ?_
        obtain rfl := Option.some.inj h
        refine q_sub [0, 2] rfl ?_
        exact K3
    replace h := hv
    refine q_if_ne 29 (by decide) dX12_branch_22 (fun c => ?_) (fun c => ?_)
    · rw [if_neg c] at h
      refine q_iconst (v := (0 : Int32)) (by decide) dX12_branch_29 ?_
      obtain rfl := Option.some.inj h
      refine q_sub [1, 2, 3] rfl ?_
      exact K2
    · rw [if_pos c] at h
      refine q_iconst (v := (1 : Int32)) (by decide) dX12_branch_25 ?_
      refine q_goto 30 (by decide) dX12_branch_26 ?_
      obtain rfl := Option.some.inj h
      refine q_sub [1, 2, 3] rfl ?_
      exact K2
  · rw [if_neg c] at h
    refine q_iload_n 2 rfl rfl dX12_branch_11 ?_
    refine q_bipush (v := (27 : Int32)) (by decide) dX12_branch_12 ?_
    refine q_icmp_ne 54 (by decide) dX12_branch_14 (fun c => ?_) (fun c => ?_)
    · rw [if_neg c] at h
      refine q_aload_n 1 rfl rfl dX12_branch_54 ?_
      obtain ⟨r7, e8, h⟩ := q_bind h
      refine q_callV (ci := 12) (d := 0) (Mc := mX12_pop) (kc := 0) (nc := 0) [] okX12_pop (q_sh102 (w.fx fx3)) (by decide) rfl lmX12_586 inX12_pop seX12_pop rfl (Nat.le_of_ble_eq_true rfl) (Nat.le_of_ble_eq_true rfl) (Nat.le_refl _) (Nat.le_refl _) dX12_branch_55 (q_L.deep (by decide) (kX12_pop (Q := fun r S' => r = some (.long r7.1) ∧ S' = r7.2) (w.fx fx3) e8 ⟨rfl, rfl⟩)) (q_kJ ?_)
      have fx9 : q_Fx S r7.2 := q_Fx.tr (fx3) (fxX12_pop e8)
      refine q_lstore [(6, .long r7.1), (3, .long r1.1), (0, .ref 102), (1, .int x1), (2, .int x2)] (by decide) rfl dX12_branch_58 ?_
      refine q_iload_n 3 rfl rfl dX12_branch_60 ?_
      refine q_bipush (v := (20 : Int32)) (by decide) dX12_branch_61 ?_
      obtain ⟨v10, hv, h⟩ := q_bind h
      have K5 : q_L g mX12_branch 1 0 0 Q 0 0 189 [(0, .ref 102), (2, .int x2)] [.int (q_b v10)] r7.2 := by
        refine q_istore [(5, .int (q_b v10)), (0, .ref 102), (2, .int x2)] (by decide) rfl dX12_branch_189 ?_
        obtain rfl := Option.some.inj h
        refine q_sub [1, 2, 0] rfl ?_
        exact K1
      replace h := hv
      refine q_icmp_eq 72 (by decide) dX12_branch_63 (fun c => ?_) (fun c => ?_)
      · rw [if_pos c] at h
        refine q_lload 0 rfl dX12_branch_72 ?_
        refine q_lload_n 1 rfl rfl dX12_branch_74 ?_
        refine q_lcmp dX12_branch_75 ?_
        refine q_if_ne 83 (by decide) dX12_branch_76 (fun c => ?_) (fun c => ?_)
        · rw [if_neg c] at h
          refine q_iconst (v := (0 : Int32)) (by decide) dX12_branch_83 ?_
          refine q_goto 189 (by decide) dX12_branch_84 ?_
          obtain rfl := Option.some.inj h
          refine q_sub [2, 4] rfl ?_
          exact K5
        · rw [if_pos c] at h
          refine q_iconst (v := (1 : Int32)) (by decide) dX12_branch_79 ?_
          refine q_goto 189 (by decide) dX12_branch_80 ?_
          obtain rfl := Option.some.inj h
          refine q_sub [2, 4] rfl ?_
          exact K5
      · rw [if_neg c] at h
        refine q_iload_n 3 rfl rfl dX12_branch_66 ?_
        refine q_bipush (v := (28 : Int32)) (by decide) dX12_branch_67 ?_
        refine q_icmp_ne 87 (by decide) dX12_branch_69 (fun c => ?_) (fun c => ?_)
        · rw [if_neg c] at h
          refine q_iload_n 3 rfl rfl dX12_branch_87 ?_
          refine q_bipush (v := (21 : Int32)) (by decide) dX12_branch_88 ?_
          refine q_icmp_eq 99 (by decide) dX12_branch_90 (fun c => ?_) (fun c => ?_)
          · rw [if_pos c] at h
            refine q_lload 0 rfl dX12_branch_99 ?_
            refine q_lload_n 1 rfl rfl dX12_branch_101 ?_
            refine q_lcmp dX12_branch_102 ?_
            refine q_if_eq 110 (by decide) dX12_branch_103 (fun c => ?_) (fun c => ?_)
            · rw [if_pos c] at h
              refine q_iconst (v := (0 : Int32)) (by decide) dX12_branch_110 ?_
              refine q_goto 189 (by decide) dX12_branch_111 ?_
              obtain rfl := Option.some.inj h
              refine q_sub [2, 4] rfl ?_
              exact K5
            · rw [if_neg c] at h
              refine q_iconst (v := (1 : Int32)) (by decide) dX12_branch_106 ?_
              refine q_goto 189 (by decide) dX12_branch_107 ?_
              obtain rfl := Option.some.inj h
              refine q_sub [2, 4] rfl ?_
              exact K5
          · rw [if_neg c] at h
            refine q_iload_n 3 rfl rfl dX12_branch_93 ?_
            refine q_bipush (v := (29 : Int32)) (by decide) dX12_branch_94 ?_
            refine q_icmp_ne 114 (by decide) dX12_branch_96 (fun c => ?_) (fun c => ?_)
            · rw [if_neg c] at h
              refine q_iload_n 3 rfl rfl dX12_branch_114 ?_
              refine q_bipush (v := (22 : Int32)) (by decide) dX12_branch_115 ?_
              refine q_icmp_ne 135 (by decide) dX12_branch_117 (fun c => ?_) (fun c => ?_)
              · rw [if_neg c] at h
                refine q_iload_n 3 rfl rfl dX12_branch_135 ?_
                refine q_bipush (v := (23 : Int32)) (by decide) dX12_branch_136 ?_
                refine q_icmp_ne 156 (by decide) dX12_branch_138 (fun c => ?_) (fun c => ?_)
                · rw [if_neg c] at h
                  refine q_iload_n 3 rfl rfl dX12_branch_156 ?_
                  refine q_bipush (v := (24 : Int32)) (by decide) dX12_branch_157 ?_
                  refine q_icmp_ne 177 (by decide) dX12_branch_159 (fun c => ?_) (fun c => ?_)
                  · rw [if_neg c] at h
                    refine q_lload 0 rfl dX12_branch_177 ?_
                    refine q_lload_n 1 rfl rfl dX12_branch_179 ?_
                    refine q_lcmp dX12_branch_180 ?_
                    refine q_if_lt 188 (by decide) dX12_branch_181 (fun c => ?_) (fun c => ?_)
                    · rw [if_pos c] at h
                      refine q_iconst (v := (0 : Int32)) (by decide) dX12_branch_188 ?_
                      obtain rfl := Option.some.inj h
                      refine q_sub [2, 4] rfl ?_
                      exact K5
                    · rw [if_neg c] at h
                      refine q_iconst (v := (1 : Int32)) (by decide) dX12_branch_184 ?_
                      refine q_goto 189 (by decide) dX12_branch_185 ?_
                      obtain rfl := Option.some.inj h
                      refine q_sub [2, 4] rfl ?_
                      exact K5
                  · rw [if_pos c] at h
                    refine q_lload 0 rfl dX12_branch_162 ?_
                    refine q_lload_n 1 rfl rfl dX12_branch_164 ?_
                    refine q_lcmp dX12_branch_165 ?_
                    refine q_if_le 173 (by decide) dX12_branch_166 (fun c => ?_) (fun c => ?_)
                    · rw [if_pos c] at h
                      refine q_iconst (v := (0 : Int32)) (by decide) dX12_branch_173 ?_
                      refine q_goto 189 (by decide) dX12_branch_174 ?_
                      obtain rfl := Option.some.inj h
                      refine q_sub [2, 4] rfl ?_
                      exact K5
                    · rw [if_neg c] at h
                      refine q_iconst (v := (1 : Int32)) (by decide) dX12_branch_169 ?_
                      refine q_goto 189 (by decide) dX12_branch_170 ?_
                      obtain rfl := Option.some.inj h
                      refine q_sub [2, 4] rfl ?_
                      exact K5
                · rw [if_pos c] at h
                  refine q_lload 0 rfl dX12_branch_141 ?_
                  refine q_lload_n 1 rfl rfl dX12_branch_143 ?_
                  refine q_lcmp dX12_branch_144 ?_
                  refine q_if_gt 152 (by decide) dX12_branch_145 (fun c => ?_) (fun c => ?_)
                  · rw [if_pos c] at h
                    refine q_iconst (v := (0 : Int32)) (by decide) dX12_branch_152 ?_
                    refine q_goto 189 (by decide) dX12_branch_153 ?_
                    obtain rfl := Option.some.inj h
                    refine q_sub [2, 4] rfl ?_
                    exact K5
                  · rw [if_neg c] at h
                    refine q_iconst (v := (1 : Int32)) (by decide) dX12_branch_148 ?_
                    refine q_goto 189 (by decide) dX12_branch_149 ?_
                    obtain rfl := Option.some.inj h
                    refine q_sub [2, 4] rfl ?_
                    exact K5
              · rw [if_pos c] at h
                refine q_lload 0 rfl dX12_branch_120 ?_
                refine q_lload_n 1 rfl rfl dX12_branch_122 ?_
                refine q_lcmp dX12_branch_123 ?_
                refine q_if_ge 131 (by decide) dX12_branch_124 (fun c => ?_) (fun c => ?_)
                · rw [if_pos c] at h
                  refine q_iconst (v := (0 : Int32)) (by decide) dX12_branch_131 ?_
                  refine q_goto 189 (by decide) dX12_branch_132 ?_
                  obtain rfl := Option.some.inj h
                  refine q_sub [2, 4] rfl ?_
                  exact K5
                · rw [if_neg c] at h
                  refine q_iconst (v := (1 : Int32)) (by decide) dX12_branch_127 ?_
                  refine q_goto 189 (by decide) dX12_branch_128 ?_
                  obtain rfl := Option.some.inj h
                  refine q_sub [2, 4] rfl ?_
                  exact K5
            · rw [if_pos c] at h
              refine q_lload 0 rfl dX12_branch_99 ?_
              refine q_lload_n 1 rfl rfl dX12_branch_101 ?_
              refine q_lcmp dX12_branch_102 ?_
              refine q_if_eq 110 (by decide) dX12_branch_103 (fun c => ?_) (fun c => ?_)
              · rw [if_pos c] at h
                refine q_iconst (v := (0 : Int32)) (by decide) dX12_branch_110 ?_
                refine q_goto 189 (by decide) dX12_branch_111 ?_
                obtain rfl := Option.some.inj h
                refine q_sub [2, 4] rfl ?_
                exact K5
              · rw [if_neg c] at h
                refine q_iconst (v := (1 : Int32)) (by decide) dX12_branch_106 ?_
                refine q_goto 189 (by decide) dX12_branch_107 ?_
                obtain rfl := Option.some.inj h
                refine q_sub [2, 4] rfl ?_
                exact K5
        · rw [if_pos c] at h
          refine q_lload 0 rfl dX12_branch_72 ?_
          refine q_lload_n 1 rfl rfl dX12_branch_74 ?_
          refine q_lcmp dX12_branch_75 ?_
          refine q_if_ne 83 (by decide) dX12_branch_76 (fun c => ?_) (fun c => ?_)
          · rw [if_neg c] at h
            refine q_iconst (v := (0 : Int32)) (by decide) dX12_branch_83 ?_
            refine q_goto 189 (by decide) dX12_branch_84 ?_
            obtain rfl := Option.some.inj h
            refine q_sub [2, 4] rfl ?_
            exact K5
          · rw [if_pos c] at h
            refine q_iconst (v := (1 : Int32)) (by decide) dX12_branch_79 ?_
            refine q_goto 189 (by decide) dX12_branch_80 ?_
            obtain rfl := Option.some.inj h
            refine q_sub [2, 4] rfl ?_
            exact K5
    · rw [if_pos c] at h
      refine q_lload_n 0 rfl rfl dX12_branch_17 ?_
      refine q_ldc2 lkX12_553 dX12_branch_18 ?_
      refine q_lcmp dX12_branch_21 ?_
      refine q_if_ne 29 (by decide) dX12_branch_22 (fun c => ?_) (fun c => ?_)
      · rw [if_neg c] at h
        refine q_iconst (v := (0 : Int32)) (by decide) dX12_branch_29 ?_
        refine q_iload_n 2 rfl rfl dX12_branch_30 ?_
        refine q_bipush (v := (26 : Int32)) (by decide) dX12_branch_31 ?_
        refine q_icmp_ne 40 (by decide) dX12_branch_33 (fun c => ?_) (fun c => ?_)
        · rw [if_neg c] at h
          refine q_iconst (v := (0 : Int32)) (by decide) dX12_branch_40 ?_
          refine q_icmp_ne 48 (by decide) dX12_branch_41 (fun c => ?_) (fun c => ?_)
          · rw [if_neg c] at h
            refine q_iconst (v := (0 : Int32)) (by decide) dX12_branch_48 ?_
            refine q_istore [(5, .int (0 : Int32)), (3, .long r1.1), (0, .ref 102), (1, .int x1), (2, .int x2)] (by decide) rfl dX12_branch_49 ?_
            refine q_goto 191 (by decide) dX12_branch_51 ?_
            obtain rfl := Option.some.inj h
            refine q_sub [2, 4, 0] rfl ?_
            exact K1
          · rw [if_pos c] at h
            refine q_iconst (v := (1 : Int32)) (by decide) dX12_branch_44 ?_
            refine q_goto 49 (by decide) dX12_branch_45 ?_
            refine q_istore [(5, .int (1 : Int32)), (3, .long r1.1), (0, .ref 102), (1, .int x1), (2, .int x2)] (by decide) rfl dX12_branch_49 ?_
            refine q_goto 191 (by decide) dX12_branch_51 ?_
            obtain rfl := Option.some.inj h
            refine q_sub [2, 4, 0] rfl ?_
            exact K1
        · rw [if_pos c] at h
          refine q_iconst (v := (1 : Int32)) (by decide) dX12_branch_36 ?_
          refine q_goto 41 (by decide) dX12_branch_37 ?_
          refine q_icmp_ne 48 (by decide) dX12_branch_41 (fun c => ?_) (fun c => ?_)
          · rw [if_neg c] at h
            refine q_iconst (v := (0 : Int32)) (by decide) dX12_branch_48 ?_
            refine q_istore [(5, .int (0 : Int32)), (3, .long r1.1), (0, .ref 102), (1, .int x1), (2, .int x2)] (by decide) rfl dX12_branch_49 ?_
            refine q_goto 191 (by decide) dX12_branch_51 ?_
            obtain rfl := Option.some.inj h
            refine q_sub [2, 4, 0] rfl ?_
            exact K1
          · rw [if_pos c] at h
            refine q_iconst (v := (1 : Int32)) (by decide) dX12_branch_44 ?_
            refine q_goto 49 (by decide) dX12_branch_45 ?_
            refine q_istore [(5, .int (1 : Int32)), (3, .long r1.1), (0, .ref 102), (1, .int x1), (2, .int x2)] (by decide) rfl dX12_branch_49 ?_
            refine q_goto 191 (by decide) dX12_branch_51 ?_
            obtain rfl := Option.some.inj h
            refine q_sub [2, 4, 0] rfl ?_
            exact K1
      · rw [if_pos c] at h
        refine q_iconst (v := (1 : Int32)) (by decide) dX12_branch_25 ?_
        refine q_goto 30 (by decide) dX12_branch_26 ?_
        refine q_iload_n 2 rfl rfl dX12_branch_30 ?_
        refine q_bipush (v := (26 : Int32)) (by decide) dX12_branch_31 ?_
        refine q_icmp_ne 40 (by decide) dX12_branch_33 (fun c => ?_) (fun c => ?_)
        · rw [if_neg c] at h
          refine q_iconst (v := (0 : Int32)) (by decide) dX12_branch_40 ?_
          refine q_icmp_ne 48 (by decide) dX12_branch_41 (fun c => ?_) (fun c => ?_)
          · rw [if_neg c] at h
            refine q_iconst (v := (0 : Int32)) (by decide) dX12_branch_48 ?_
            refine q_istore [(5, .int (0 : Int32)), (3, .long r1.1), (0, .ref 102), (1, .int x1), (2, .int x2)] (by decide) rfl dX12_branch_49 ?_
            refine q_goto 191 (by decide) dX12_branch_51 ?_
            obtain rfl := Option.some.inj h
            refine q_sub [2, 4, 0] rfl ?_
            exact K1
          · rw [if_pos c] at h
            refine q_iconst (v := (1 : Int32)) (by decide) dX12_branch_44 ?_
            refine q_goto 49 (by decide) dX12_branch_45 ?_
            refine q_istore [(5, .int (1 : Int32)), (3, .long r1.1), (0, .ref 102), (1, .int x1), (2, .int x2)] (by decide) rfl dX12_branch_49 ?_
            refine q_goto 191 (by decide) dX12_branch_51 ?_
            obtain rfl := Option.some.inj h
            refine q_sub [2, 4, 0] rfl ?_
            exact K1
        · rw [if_pos c] at h
          refine q_iconst (v := (1 : Int32)) (by decide) dX12_branch_36 ?_
          refine q_goto 41 (by decide) dX12_branch_37 ?_
          refine q_icmp_ne 48 (by decide) dX12_branch_41 (fun c => ?_) (fun c => ?_)
          · rw [if_neg c] at h
            refine q_iconst (v := (0 : Int32)) (by decide) dX12_branch_48 ?_
            refine q_istore [(5, .int (0 : Int32)), (3, .long r1.1), (0, .ref 102), (1, .int x1), (2, .int x2)] (by decide) rfl dX12_branch_49 ?_
            refine q_goto 191 (by decide) dX12_branch_51 ?_
            obtain rfl := Option.some.inj h
            refine q_sub [2, 4, 0] rfl ?_
            exact K1
          · rw [if_pos c] at h
            refine q_iconst (v := (1 : Int32)) (by decide) dX12_branch_44 ?_
            refine q_goto 49 (by decide) dX12_branch_45 ?_
            refine q_istore [(5, .int (1 : Int32)), (3, .long r1.1), (0, .ref 102), (1, .int x1), (2, .int x2)] (by decide) rfl dX12_branch_49 ?_
            refine q_goto 191 (by decide) dX12_branch_51 ?_
            obtain rfl := Option.some.inj h
            refine q_sub [2, 4, 0] rfl ?_
            exact K1
set_option maxRecDepth 20000 in
theorem sX12_make_145 {g : QG} {Q : Option Value → QS → Prop} {qs : Nat} {q : Nat} {y4 : Int32} {y6 : Int64} {y8 : Int32} {x : Int32 × QS} {z : (QS) ⊕ (Int32 × QS)} (w : q_Wire x.2) (hq : q_qok q) (aM : q_aM x.2 q qs) (h : tX12_make_145 q y4 y6 y8 x = some z) (hQ : (Sum.elim (fun r0 : QS => Q none r0) (fun y : Int32 × QS => q_L g mX12_make 4 0 0 Q 0 0 145 [(0, .ref 102), (4, .int y4), (6, .long y6), (8, .int y8), (9, .int y.1)] [] y.2) z)) : q_L g mX12_make 4 0 0 Q 0 0 145 [(0, .ref 102), (4, .int y4), (6, .long y6), (8, .int y8), (9, .int x.1)] [] x.2 := by
  unfold tX12_make_145 at h
  refine q_iload 4 rfl dX12_make_145 ?_
  refine q_aload_n 0 rfl rfl dX12_make_147 ?_
  refine q_getR (q_sh102 w) (by decide) (by decide) rfl lfX12_10 dX12_make_148 (r := q) (aM).1 ?_
  refine q_getI (q_shQ0 w hq) (by decide) (by decide) rfl lfX12_257 dX12_make_151 ?_
  refine q_icmp_ge 220 (by decide) dX12_make_154 (fun c => ?_) (fun c => ?_)
  · rw [if_pos c] at h
    refine q_aload_n 0 rfl rfl dX12_make_220 ?_
    refine q_lload 2 rfl dX12_make_221 ?_
    obtain ⟨r1, e2, h⟩ := q_bind h
    refine q_callV (ci := 12) (d := 3) (Mc := mX12_push) (kc := 0) (nc := 0) [.long y6] okX12_push (q_sh102 w) (by decide) rfl lmX12_582 inX12_push seX12_push rfl (Nat.le_of_ble_eq_true rfl) (Nat.le_of_ble_eq_true rfl) (Nat.le_refl _) (Nat.le_refl _) dX12_make_223 (q_L.deep (by decide) (kX12_push (Q := fun r S' => r = none ∧ S' = r1) w e2 ⟨rfl, rfl⟩)) (q_kV ?_)
    have fx3 : q_Fx x.2 r1 := q_Fx.tr (q_Fx.rf x.2) (fxX12_push e2)
    refine q_aload_n 0 rfl rfl dX12_make_226 ?_
    obtain ⟨r4, e5, h⟩ := q_bind h
    refine q_callV (ci := 12) (d := 3) (Mc := mX12_next) (kc := 0) (nc := 0) [] okX12_next (q_sh102 (w.fx fx3)) (by decide) rfl lmX12_600 inX12_next seX12_next rfl (Nat.le_of_ble_eq_true rfl) (Nat.le_of_ble_eq_true rfl) (Nat.le_refl _) (Nat.le_refl _) dX12_make_227 (q_L.deep (by decide) (kX12_next (Q := fun r S' => r = none ∧ S' = r4) (w.fx fx3) e5 ⟨rfl, rfl⟩)) (q_kV ?_)
    have fx6 : q_Fx x.2 r4 := q_Fx.tr (fx3) (fxX12_next e5)
    cases h
    exact q_vret rfl dX12_make_230 hQ
  · rw [if_neg c] at h
    refine q_aload_n 0 rfl rfl dX12_make_157 ?_
    refine q_getR (q_sh102 w) (by decide) (by decide) rfl lfX12_10 dX12_make_158 (r := q) (aM).1 ?_
    refine q_getR (q_shQ0 w hq) (by decide) (by decide) rfl lfX12_288 dX12_make_161 (r := (q + 4)) (q_wrQ0_10 w hq) ?_
    refine q_iload 4 rfl dX12_make_164 ?_
    obtain ⟨hg7, h⟩ := q_guard h
    refine q_iald (q_shQ4 w hq) (q_inb_in hg7) dX12_make_166 ?_
    refine q_if_ne 214 (by decide) dX12_make_167 (fun c => ?_) (fun c => ?_)
    · rw [if_neg c] at h
      refine q_iinc (v := (x.1 + (1 : Int32))) 4 [(9, .int (x.1 + (1 : Int32))), (0, .ref 102), (4, .int y4), (6, .long y6), (8, .int y8)] (by decide) rfl (congrArg (fun t => x.1 + t) (by decide)) rfl dX12_make_214 ?_
      refine q_goto 145 (by decide) dX12_make_217 ?_
      refine q_sub [1, 2, 3, 4, 0] rfl ?_
      cases h
      exact hQ
    · rw [if_pos c] at h
      refine q_aload_n 0 rfl rfl dX12_make_170 ?_
      refine q_getR (q_sh102 w) (by decide) (by decide) rfl lfX12_10 dX12_make_171 (r := q) (aM).1 ?_
      refine q_iload 1 rfl dX12_make_174 ?_
      refine q_bipush (v := (8 : Int32)) (by decide) dX12_make_176 ?_
      refine q_isub dX12_make_178 ?_
      refine q_aload_n 0 rfl rfl dX12_make_179 ?_
      refine q_getR (q_sh102 w) (by decide) (by decide) rfl lfX12_10 dX12_make_180 (r := q) (aM).1 ?_
      refine q_getR (q_shQ0 w hq) (by decide) (by decide) rfl lfX12_260 dX12_make_183 (r := (q + 3)) (q_wrQ0_9 w hq) ?_
      refine q_iload 4 rfl dX12_make_186 ?_
      obtain ⟨hg8, h⟩ := q_guard h
      refine q_iald (q_shQ3 w hq) (q_inb_in hg8) dX12_make_188 ?_
      obtain ⟨r9, e10, h⟩ := q_bind h
      refine q_callS (d := 3) (Mc := mX12_isAtOrBelow) (kc := 0) (nc := 0) [.ref q, .int (y4 - (8 : Int32)), .int (x.2.2.1 (q + 3) x.1.toNatClampNeg)] okX12_isAtOrBelow lmX12_263 inX12_isAtOrBelow rfl (Nat.le_of_ble_eq_true rfl) (Nat.le_of_ble_eq_true rfl) (Nat.le_refl _) (Nat.le_refl _) dX12_make_189 (q_L.deep (by decide) (kX12_isAtOrBelow (Q := fun r S' => r = some (.int (q_b r9)) ∧ S' = x.2) w hq e10 ⟨rfl, rfl⟩)) (q_kI ?_)
      refine q_if_eq 214 (by decide) dX12_make_192 (fun c => ?_) (fun c => ?_)
      · have c := q_b_0.mp c; rw [q_if0 c] at h
        refine q_iinc (v := (x.1 + (1 : Int32))) 4 [(9, .int (x.1 + (1 : Int32))), (0, .ref 102), (4, .int y4), (6, .long y6), (8, .int y8)] (by decide) rfl (congrArg (fun t => x.1 + t) (by decide)) rfl dX12_make_214 ?_
        refine q_goto 145 (by decide) dX12_make_217 ?_
        refine q_sub [1, 2, 3, 4, 0] rfl ?_
        cases h
        exact hQ
      · have c := q_b_n.mp c; rw [q_if1 c] at h
        refine q_aload_n 0 rfl rfl dX12_make_195 ?_
        refine q_getR (q_sh102 w) (by decide) (by decide) rfl lfX12_89 dX12_make_196 (r := 180) (q_wr102_32 w) ?_
        refine q_iload 3 rfl dX12_make_199 ?_
        refine q_aload_n 0 rfl rfl dX12_make_201 ?_
        refine q_getR (q_sh102 w) (by decide) (by decide) rfl lfX12_10 dX12_make_202 (r := q) (aM).1 ?_
        refine q_getR (q_shQ0 w hq) (by decide) (by decide) rfl lfX12_397 dX12_make_205 (r := (q + 5)) (q_wrQ0_11 w hq) ?_
        refine q_iload 4 rfl dX12_make_208 ?_
        obtain ⟨hg11, h⟩ := q_guard h
        refine q_iald (q_shQ5 w hq) (q_inb_in hg11) dX12_make_210 ?_
        refine q_iadd dX12_make_211 ?_
        refine q_lconst (v := (0 : Int64)) (by decide) dX12_make_212 ?_
        obtain ⟨hg12, h⟩ := q_guard h
        refine q_last (q_sh180 w) (q_inb_in hg12) dX12_make_213 ?_
        obtain ⟨S13, e14, h⟩ := q_bindS h
        refine q_st e14 ?_
        have fx15 : q_Fx x.2 S13 := e14 ▸ q_Fx.sJ (q_Fx.rf x.2)
        refine q_iinc (v := (x.1 + (1 : Int32))) 4 [(9, .int (x.1 + (1 : Int32))), (0, .ref 102), (4, .int y4), (6, .long y6), (8, .int y8)] (by decide) rfl (congrArg (fun t => x.1 + t) (by decide)) rfl dX12_make_214 ?_
        refine q_goto 145 (by decide) dX12_make_217 ?_
        refine q_sub [1, 2, 3, 4, 0] rfl ?_
        cases h
        exact hQ
theorem lX12_make_145 {g : QG} {Q : Option Value → QS → Prop} {qs : Nat} {q : Nat} {y4 : Int32} {y6 : Int64} {y8 : Int32} {r : QS} (hq : q_qok q) (hQ : Q none r) : ∀ (c : Nat) (x : Int32 × QS), q_Wire x.2 → q_aM x.2 q qs → q_it (tX12_make_145 q y4 y6 y8) c x = some r → q_L g mX12_make 4 0 0 Q 0 0 145 [(0, .ref 102), (4, .int y4), (6, .long y6), (8, .int y8), (9, .int x.1)] [] x.2 := by
  intro c
  induction c with
  | zero => intro x w aM h; cases h
  | succ c ih =>
    intro x w aM h
    simp only [q_it] at h
    cases hz : tX12_make_145 q y4 y6 y8 x with
    | none => rw [hz] at h; cases h
    | some z =>
      rw [hz] at h
      refine sX12_make_145 w hq aM hz ?_
      rcases z with z | y
      · cases h; exact hQ
      · have fz := fxtX12_make_145 hz; exact ih y (w.fx fz) (aM.fx fz) h
theorem kX12_make_145 {S : QS} {g : QG} {Q : Option Value → QS → Prop} {qs : Nat} {q : Nat} {y4 : Int32} {y6 : Int64} {y8 : Int32} {y9 : Int32} {r : QS} (w : q_Wire S) (hq : q_qok q) (aM : q_aM S q qs) (h : fX12_make_145 S q y4 y6 y8 y9 = some r) (hQ : Q none r) : q_L g mX12_make 4 0 0 Q 0 0 145 [(0, .ref 102), (4, .int y4), (6, .long y6), (8, .int y8), (9, .int y9)] [] S := by
  obtain ⟨c, hc⟩ := q_run_it h
  exact lX12_make_145 hq hQ c (y9, S) w aM hc
set_option maxRecDepth 20000 in
theorem sX12_make_93 {g : QG} {Q : Option Value → QS → Prop} {qs : Nat} {q : Nat} {y1 : Int32} {y4 : Int32} {y5 : Int32} {y6 : Int64} {y8 : Int32} {x : Int32 × QS} {z : (QS) ⊕ (Int32 × QS)} (w : q_Wire x.2) (hq : q_qok q) (aM : q_aM x.2 q qs) (h : tX12_make_93 q y1 y4 y5 y6 y8 x = some z) (hQ : (Sum.elim (fun r0 : QS => Q none r0) (fun y : Int32 × QS => q_L g mX12_make 4 0 0 Q 0 0 93 [(0, .ref 102), (1, .int y1), (4, .int y4), (5, .int y5), (6, .long y6), (8, .int y8), (9, .int y.1)] [] y.2) z)) : q_L g mX12_make 4 0 0 Q 0 0 93 [(0, .ref 102), (1, .int y1), (4, .int y4), (5, .int y5), (6, .long y6), (8, .int y8), (9, .int x.1)] [] x.2 := by
  unfold tX12_make_93 at h
  refine q_iload 6 rfl dX12_make_93 ?_
  refine q_iload 3 rfl dX12_make_95 ?_
  refine q_icmp_ge 136 (by decide) dX12_make_97 (fun c => ?_) (fun c => ?_)
  · rw [if_pos c] at h
    refine q_iload_n 1 rfl rfl dX12_make_136 ?_
    refine q_bipush (v := (30 : Int32)) (by decide) dX12_make_137 ?_
    refine q_icmp_ne 220 (by decide) dX12_make_139 (fun c => ?_) (fun c => ?_)
    · rw [if_neg c] at h
      refine q_aload_n 0 rfl rfl dX12_make_220 ?_
      refine q_lload 4 rfl dX12_make_221 ?_
      obtain ⟨r16, e17, h⟩ := q_bind h
      refine q_callV (ci := 12) (d := 3) (Mc := mX12_push) (kc := 0) (nc := 0) [.long y6] okX12_push (q_sh102 w) (by decide) rfl lmX12_582 inX12_push seX12_push rfl (Nat.le_of_ble_eq_true rfl) (Nat.le_of_ble_eq_true rfl) (Nat.le_refl _) (Nat.le_refl _) dX12_make_223 (q_L.deep (by decide) (kX12_push (Q := fun r S' => r = none ∧ S' = r16) w e17 ⟨rfl, rfl⟩)) (q_kV ?_)
      have fx18 : q_Fx x.2 r16 := q_Fx.tr (q_Fx.rf x.2) (fxX12_push e17)
      refine q_aload_n 0 rfl rfl dX12_make_226 ?_
      obtain ⟨r19, e20, h⟩ := q_bind h
      refine q_callV (ci := 12) (d := 3) (Mc := mX12_next) (kc := 0) (nc := 0) [] okX12_next (q_sh102 (w.fx fx18)) (by decide) rfl lmX12_600 inX12_next seX12_next rfl (Nat.le_of_ble_eq_true rfl) (Nat.le_of_ble_eq_true rfl) (Nat.le_refl _) (Nat.le_refl _) dX12_make_227 (q_L.deep (by decide) (kX12_next (Q := fun r S' => r = none ∧ S' = r19) (w.fx fx18) e20 ⟨rfl, rfl⟩)) (q_kV ?_)
      have fx21 : q_Fx x.2 r19 := q_Fx.tr (fx18) (fxX12_next e20)
      cases h
      exact q_vret rfl dX12_make_230 hQ
    · rw [if_pos c] at h
      refine q_iconst (v := (0 : Int32)) (by decide) dX12_make_142 ?_
      refine q_istore [(9, .int (0 : Int32)), (0, .ref 102), (1, .int y1), (4, .int y4), (5, .int y5), (6, .long y6), (8, .int y8)] (by decide) rfl dX12_make_143 ?_
      refine q_sub [1, 3, 5, 6, 0] rfl ?_
      obtain ⟨r22, e23, h⟩ := q_bind h
      cases h
      exact kX12_make_145 w hq (aM) e23 hQ
  · rw [if_neg c] at h
    refine q_aload_n 0 rfl rfl dX12_make_100 ?_
    refine q_getR (q_sh102 w) (by decide) (by decide) rfl lfX12_89 dX12_make_101 (r := 180) (q_wr102_32 w) ?_
    refine q_iload 5 rfl dX12_make_104 ?_
    refine q_iload 6 rfl dX12_make_106 ?_
    refine q_iadd dX12_make_108 ?_
    refine q_iload_n 1 rfl rfl dX12_make_109 ?_
    refine q_bipush (v := (31 : Int32)) (by decide) dX12_make_110 ?_
    refine q_icmp_ne 126 (by decide) dX12_make_112 (fun c => ?_) (fun c => ?_)
    · rw [if_neg c] at h
      refine q_ldc2 lkX12_553 dX12_make_126 ?_
      obtain ⟨hg24, h⟩ := q_guard h
      refine q_last (q_sh180 w) (q_inb_in hg24) dX12_make_129 ?_
      obtain ⟨S25, e26, h⟩ := q_bindS h
      refine q_st e26 ?_
      have fx27 : q_Fx x.2 S25 := e26 ▸ q_Fx.sJ (q_Fx.rf x.2)
      refine q_iinc (v := (x.1 + (1 : Int32))) 6 [(9, .int (x.1 + (1 : Int32))), (0, .ref 102), (1, .int y1), (4, .int y4), (5, .int y5), (6, .long y6), (8, .int y8)] (by decide) rfl (congrArg (fun t => x.1 + t) (by decide)) rfl dX12_make_130 ?_
      refine q_goto 93 (by decide) dX12_make_133 ?_
      refine q_sub [1, 2, 3, 4, 5, 6, 0] rfl ?_
      cases h
      exact hQ
    · rw [if_pos c] at h
      refine q_iload 2 rfl dX12_make_115 ?_
      refine q_bipush (v := (40 : Int32)) (by decide) dX12_make_117 ?_
      refine q_icmp_ne 126 (by decide) dX12_make_119 (fun c => ?_) (fun c => ?_)
      · rw [if_neg c] at h
        refine q_ldc2 lkX12_553 dX12_make_126 ?_
        obtain ⟨hg28, h⟩ := q_guard h
        refine q_last (q_sh180 w) (q_inb_in hg28) dX12_make_129 ?_
        obtain ⟨S29, e30, h⟩ := q_bindS h
        refine q_st e30 ?_
        have fx31 : q_Fx x.2 S29 := e30 ▸ q_Fx.sJ (q_Fx.rf x.2)
        refine q_iinc (v := (x.1 + (1 : Int32))) 6 [(9, .int (x.1 + (1 : Int32))), (0, .ref 102), (1, .int y1), (4, .int y4), (5, .int y5), (6, .long y6), (8, .int y8)] (by decide) rfl (congrArg (fun t => x.1 + t) (by decide)) rfl dX12_make_130 ?_
        refine q_goto 93 (by decide) dX12_make_133 ?_
        refine q_sub [1, 2, 3, 4, 5, 6, 0] rfl ?_
        cases h
        exact hQ
      · rw [if_pos c] at h
        refine q_lconst (v := (0 : Int64)) (by decide) dX12_make_122 ?_
        refine q_goto 129 (by decide) dX12_make_123 ?_
        obtain ⟨hg32, h⟩ := q_guard h
        refine q_last (q_sh180 w) (q_inb_in hg32) dX12_make_129 ?_
        obtain ⟨S33, e34, h⟩ := q_bindS h
        refine q_st e34 ?_
        have fx35 : q_Fx x.2 S33 := e34 ▸ q_Fx.sJ (q_Fx.rf x.2)
        refine q_iinc (v := (x.1 + (1 : Int32))) 6 [(9, .int (x.1 + (1 : Int32))), (0, .ref 102), (1, .int y1), (4, .int y4), (5, .int y5), (6, .long y6), (8, .int y8)] (by decide) rfl (congrArg (fun t => x.1 + t) (by decide)) rfl dX12_make_130 ?_
        refine q_goto 93 (by decide) dX12_make_133 ?_
        refine q_sub [1, 2, 3, 4, 5, 6, 0] rfl ?_
        cases h
        exact hQ
theorem lX12_make_93 {g : QG} {Q : Option Value → QS → Prop} {qs : Nat} {q : Nat} {y1 : Int32} {y4 : Int32} {y5 : Int32} {y6 : Int64} {y8 : Int32} {r : QS} (hq : q_qok q) (hQ : Q none r) : ∀ (c : Nat) (x : Int32 × QS), q_Wire x.2 → q_aM x.2 q qs → q_it (tX12_make_93 q y1 y4 y5 y6 y8) c x = some r → q_L g mX12_make 4 0 0 Q 0 0 93 [(0, .ref 102), (1, .int y1), (4, .int y4), (5, .int y5), (6, .long y6), (8, .int y8), (9, .int x.1)] [] x.2 := by
  intro c
  induction c with
  | zero => intro x w aM h; cases h
  | succ c ih =>
    intro x w aM h
    simp only [q_it] at h
    cases hz : tX12_make_93 q y1 y4 y5 y6 y8 x with
    | none => rw [hz] at h; cases h
    | some z =>
      rw [hz] at h
      refine sX12_make_93 w hq aM hz ?_
      rcases z with z | y
      · cases h; exact hQ
      · have fz := fxtX12_make_93 hz; exact ih y (w.fx fz) (aM.fx fz) h
theorem kX12_make_93 {S : QS} {g : QG} {Q : Option Value → QS → Prop} {qs : Nat} {q : Nat} {y1 : Int32} {y4 : Int32} {y5 : Int32} {y6 : Int64} {y8 : Int32} {y9 : Int32} {r : QS} (w : q_Wire S) (hq : q_qok q) (aM : q_aM S q qs) (h : fX12_make_93 S q y1 y4 y5 y6 y8 y9 = some r) (hQ : Q none r) : q_L g mX12_make 4 0 0 Q 0 0 93 [(0, .ref 102), (1, .int y1), (4, .int y4), (5, .int y5), (6, .long y6), (8, .int y8), (9, .int y9)] [] S := by
  obtain ⟨c, hc⟩ := q_run_it h
  exact lX12_make_93 hq hQ c (y9, S) w aM hc
set_option maxRecDepth 20000 in
theorem kX12_make {S : QS} {g : QG} {Q : Option Value → QS → Prop} {qs : Nat} {q : Nat} {x1 : Int32} {x2 : Int32} {x3 : Int32} {r : QS} (w : q_Wire S) (hq : q_qok q) (aM : q_aM S q qs) (h : fX12_make S q x1 x2 x3 = some r) (hQ : Q none r) : q_M g mX12_make 4 0 0 [.ref 102, .int x1, .int x2, .int x3] S Q := by
  unfold fX12_make at h
  show q_L g mX12_make 4 0 0 Q 0 0 0 [(0, .ref 102), (1, .int x1), (2, .int x2), (3, .int x3)] [] S
  refine q_aload_n 0 rfl rfl dX12_make_0 ?_
  refine q_getR (q_sh102 w) (by decide) (by decide) rfl lfX12_10 dX12_make_1 (r := q) (aM).1 ?_
  refine q_getR (q_shQ0 w hq) (by decide) (by decide) rfl lfX12_391 dX12_make_4 (r := (q + 20)) (q_wrQ0_26 w hq) ?_
  refine q_iload_n 2 rfl rfl dX12_make_7 ?_
  obtain ⟨hg36, h⟩ := q_guard h
  refine q_iald (q_shQ20 w hq) (q_inb_in hg36) dX12_make_8 ?_
  refine q_istore [(4, .int (S.2.1 (q + 20) x2.toNatClampNeg)), (0, .ref 102), (1, .int x1), (2, .int x2), (3, .int x3)] (by decide) rfl dX12_make_9 ?_
  refine q_iload_n 2 rfl rfl dX12_make_11 ?_
  refine q_bipush (v := (31 : Int32)) (by decide) dX12_make_12 ?_
  obtain ⟨v41, hv, h⟩ := q_bind h
  have fx42 : q_Fx S v41.2 := by
    replace h := hv
    by_cases c : x1 = (31 : Int32)
    · rw [if_pos c] at h
      obtain ⟨r38, e39, h⟩ := q_bind h
      have fx40 : q_Fx S r38.2 := q_Fx.tr (q_Fx.rf S) (fxX12_pop e39)
      obtain rfl := Option.some.inj h
      exact fx40
    · rw [if_neg c] at h
      obtain ⟨hg37, h⟩ := q_guard h
      obtain rfl := Option.some.inj h
      exact q_Fx.rf _
  have K1 : q_L g mX12_make 4 0 0 Q 0 0 38 [(0, .ref 102), (1, .int x1), (2, .int x2), (3, .int x3), (4, .int (S.2.1 (q + 20) x2.toNatClampNeg))] [.int v41.1] v41.2 := by
    refine q_istore [(5, .int v41.1), (0, .ref 102), (1, .int x1), (2, .int x2), (3, .int x3), (4, .int (S.2.1 (q + 20) x2.toNatClampNeg))] (by decide) rfl dX12_make_38 ?_
    refine q_iload 0 rfl dX12_make_40 ?_
    refine q_if_ge 52 (by decide) dX12_make_42 (fun c => ?_) (fun c => ?_)
    · rw [if_pos c] at h
      refine q_aload_n 1 rfl rfl dX12_make_52 ?_
      refine q_iload 5 rfl dX12_make_53 ?_
      refine q_iload_n 3 rfl rfl dX12_make_55 ?_
      refine q_iload 0 rfl dX12_make_56 ?_
      refine q_sipush (v := (12001 : Int32)) (by decide) dX12_make_58 ?_
      refine q_mmin q_mmL q_mmS q_mmI q_mmC (Nat.le_of_ble_eq_true rfl) (Nat.le_refl _) (Nat.le_refl _) dX12_make_61 ?_
      refine q_iload_n 4 rfl rfl dX12_make_64 ?_
      obtain ⟨r43, e44, h⟩ := q_bind h
      refine q_callV (ci := 12) (d := 3) (Mc := mX12_object) (kc := 0) (nc := 0) [.int (S.2.1 (q + 20) x2.toNatClampNeg), .int x2, .int (if (12001 : Int32) < v41.1 then (12001 : Int32) else v41.1), .int x3] okX12_object (q_sh102 (w.fx fx42)) (by decide) rfl lmX12_574 inX12_object seX12_object rfl (Nat.le_of_ble_eq_true rfl) (Nat.le_of_ble_eq_true rfl) (Nat.le_refl _) (Nat.le_refl _) dX12_make_65 (q_L.deep (by decide) (kX12_object (Q := fun r S' => r = some (.long r43.1) ∧ S' = r43.2) (w.fx fx42) e44 ⟨rfl, rfl⟩)) (q_kJ ?_)
      have fx45 : q_Fx S r43.2 := q_Fx.tr (fx42) (fxX12_object e44)
      refine q_lstore [(6, .long r43.1), (5, .int v41.1), (0, .ref 102), (1, .int x1), (2, .int x2), (3, .int x3), (4, .int (S.2.1 (q + 20) x2.toNatClampNeg))] (by decide) rfl dX12_make_68 ?_
      refine q_lload 0 rfl dX12_make_70 ?_
      refine q_lconst (v := (0 : Int64)) (by decide) dX12_make_72 ?_
      refine q_lcmp dX12_make_73 ?_
      refine q_if_ne 78 (by decide) dX12_make_74 (fun c => ?_) (fun c => ?_)
      · rw [if_neg c] at h
        refine q_aload_n 2 rfl rfl dX12_make_78 ?_
        refine q_getR (q_sh102 (w.fx fx45)) (by decide) (by decide) rfl lfX12_83 dX12_make_79 (r := 178) (q_wr102_30 (w.fx fx45)) ?_
        refine q_lload 0 rfl dX12_make_82 ?_
        obtain ⟨r46, e47, h⟩ := q_bind h
        refine q_callS (d := 3) (Mc := mX12_objectOf) (kc := 0) (nc := 0) [.long r43.1] okX12_objectOf lmX12_566 inX12_objectOf rfl (Nat.le_of_ble_eq_true rfl) (Nat.le_of_ble_eq_true rfl) (Nat.le_refl _) (Nat.le_refl _) dX12_make_84 (q_L.deep (by decide) (kX12_objectOf (Q := fun r S' => r = some (.int r46) ∧ S' = r43.2) (w.fx fx45) e47 ⟨rfl, rfl⟩)) (q_kI ?_)
        obtain ⟨hg48, h⟩ := q_guard h
        refine q_iald (q_sh178 (w.fx fx45)) (q_inb_in hg48) dX12_make_87 ?_
        refine q_istore [(8, .int (r43.2.2.1 178 r46.toNatClampNeg)), (6, .long r43.1), (5, .int v41.1), (0, .ref 102), (1, .int x1), (2, .int x2), (3, .int x3), (4, .int (S.2.1 (q + 20) x2.toNatClampNeg))] (by decide) rfl dX12_make_88 ?_
        refine q_iconst (v := (0 : Int32)) (by decide) dX12_make_90 ?_
        refine q_istore [(9, .int (0 : Int32)), (8, .int (r43.2.2.1 178 r46.toNatClampNeg)), (6, .long r43.1), (5, .int v41.1), (0, .ref 102), (1, .int x1), (2, .int x2), (3, .int x3), (4, .int (S.2.1 (q + 20) x2.toNatClampNeg))] (by decide) rfl dX12_make_91 ?_
        refine q_sub [4, 5, 8, 3, 2, 1, 0] rfl ?_
        exact kX12_make_93 (w.fx fx45) hq (aM.fx fx45) h hQ
      · rw [if_pos c] at h
        obtain rfl := Option.some.inj h
        exact q_vret rfl dX12_make_77 hQ
    · rw [if_neg c] at h
      refine q_aload_n 1 rfl rfl dX12_make_45 ?_
      refine q_iconst (v := (2 : Int32)) (by decide) dX12_make_46 ?_
      refine q_iload_n 4 rfl rfl dX12_make_47 ?_
      obtain ⟨r49, e50, h⟩ := q_bind h
      refine q_callV (ci := 12) (d := 3) (Mc := mX12_raise) (kc := 0) (nc := 0) [.int (2 : Int32), .int x3] okX12_raise (q_sh102 (w.fx fx42)) (by decide) rfl lmX12_603 inX12_raise seX12_raise rfl (Nat.le_of_ble_eq_true rfl) (Nat.le_of_ble_eq_true rfl) (Nat.le_refl _) (Nat.le_refl _) dX12_make_48 (q_L.deep (by decide) (kX12_raise (Q := fun r S' => r = none ∧ S' = r49) (w.fx fx42) hq (aM.fx fx42) e50 ⟨rfl, rfl⟩)) (q_kV ?_)
      have fx51 : q_Fx S r49 := q_Fx.tr (fx42) (fxX12_raise e50)
      obtain rfl := Option.some.inj h
      exact q_vret rfl dX12_make_51 hQ
  replace h := hv
  refine q_icmp_ne 25 (by decide) dX12_make_14 (fun c => ?_) (fun c => ?_)
  · rw [if_neg c] at h
    refine q_aload_n 1 rfl rfl dX12_make_25 ?_
    refine q_getR (q_sh102 w) (by decide) (by decide) rfl lfX12_10 dX12_make_26 (r := q) (aM).1 ?_
    refine q_getR (q_shQ0 w hq) (by decide) (by decide) rfl lfX12_394 dX12_make_29 (r := (q + 2)) (q_wrQ0_8 w hq) ?_
    refine q_iload 0 rfl dX12_make_32 ?_
    refine q_bipush (v := (8 : Int32)) (by decide) dX12_make_34 ?_
    refine q_isub dX12_make_36 ?_
    obtain ⟨hg37, h⟩ := q_guard h
    refine q_iald (q_shQ2 w hq) (q_inb_in hg37) dX12_make_37 ?_
    obtain rfl := Option.some.inj h
    refine q_sub [1, 2, 3, 4, 0] rfl ?_
    exact K1
  · rw [if_pos c] at h
    refine q_aload_n 1 rfl rfl dX12_make_17 ?_
    obtain ⟨r38, e39, h⟩ := q_bind h
    refine q_callV (ci := 12) (d := 3) (Mc := mX12_pop) (kc := 0) (nc := 0) [] okX12_pop (q_sh102 w) (by decide) rfl lmX12_586 inX12_pop seX12_pop rfl (Nat.le_of_ble_eq_true rfl) (Nat.le_of_ble_eq_true rfl) (Nat.le_refl _) (Nat.le_refl _) dX12_make_18 (q_L.deep (by decide) (kX12_pop (Q := fun r S' => r = some (.long r38.1) ∧ S' = r38.2) w e39 ⟨rfl, rfl⟩)) (q_kJ ?_)
    have fx40 : q_Fx S r38.2 := q_Fx.tr (q_Fx.rf S) (fxX12_pop e39)
    refine q_l2i dX12_make_21 ?_
    refine q_goto 38 (by decide) dX12_make_22 ?_
    obtain rfl := Option.some.inj h
    refine q_sub [1, 2, 3, 4, 0] rfl ?_
    exact K1
set_option maxRecDepth 20000 in
theorem kX12_isObject {S : QS} {g : QG} {Q : Option Value → QS → Prop}  {x0 : Int64} {r : Bool} (w : q_Wire S) (h : fX12_isObject S x0 = some r) (hQ : Q (some (.int (q_b r))) S) : q_M g mX12_isObject 0 0 0 [.long x0] S Q := by
  unfold fX12_isObject at h
  show q_L g mX12_isObject 0 0 0 Q 0 0 0 [(0, .long x0)] [] S
  refine q_lload_n 0 rfl rfl dX12_isObject_0 ?_
  refine q_ldc2 lkX12_553 dX12_isObject_1 ?_
  refine q_lcmp dX12_isObject_4 ?_
  refine q_if_le 20 (by decide) dX12_isObject_5 (fun c => ?_) (fun c => ?_)
  · rw [if_pos c] at h
    refine q_iconst (v := (0 : Int32)) (by decide) dX12_isObject_20 ?_
    obtain rfl := Option.some.inj h
    exact q_iret rfl (by decide) dX12_isObject_21 hQ
  · rw [if_neg c] at h
    refine q_lload_n 0 rfl rfl dX12_isObject_8 ?_
    refine q_ldc2 lkX12_551 dX12_isObject_9 ?_
    refine q_lcmp dX12_isObject_12 ?_
    refine q_if_eq 20 (by decide) dX12_isObject_13 (fun c => ?_) (fun c => ?_)
    · rw [if_pos c] at h
      refine q_iconst (v := (0 : Int32)) (by decide) dX12_isObject_20 ?_
      obtain rfl := Option.some.inj h
      exact q_iret rfl (by decide) dX12_isObject_21 hQ
    · rw [if_neg c] at h
      refine q_iconst (v := (1 : Int32)) (by decide) dX12_isObject_16 ?_
      refine q_goto 21 (by decide) dX12_isObject_17 ?_
      obtain rfl := Option.some.inj h
      exact q_iret rfl (by decide) dX12_isObject_21 hQ
set_option maxRecDepth 20000 in
theorem kX12_elementStep {S : QS} {g : QG} {Q : Option Value → QS → Prop} {qs : Nat} {q : Nat} {x1 : Int32} {x2 : Int32} {r : QS} (w : q_Wire S) (hq : q_qok q) (aM : q_aM S q qs) (h : fX12_elementStep S q x1 x2 = some r) (hQ : Q none r) : q_M g mX12_elementStep 4 0 0 [.ref 102, .int x1, .int x2] S Q := by
  unfold fX12_elementStep at h
  show q_L g mX12_elementStep 4 0 0 Q 0 0 0 [(0, .ref 102), (1, .int x1), (2, .int x2)] [] S
  refine q_iload_n 1 rfl rfl dX12_elementStep_0 ?_
  refine q_bipush (v := (34 : Int32)) (by decide) dX12_elementStep_1 ?_
  obtain ⟨v4, hv, h⟩ := q_bind h
  have fx5 : q_Fx S v4.2 := by
    replace h := hv
    by_cases c : x1 = (34 : Int32)
    · rw [if_pos c] at h
      obtain ⟨r1, e2, h⟩ := q_bind h
      have fx3 : q_Fx S r1.2 := q_Fx.tr (q_Fx.rf S) (fxX12_pop e2)
      obtain rfl := Option.some.inj h
      exact fx3
    · rw [if_neg c] at h
      obtain rfl := Option.some.inj h
      exact q_Fx.rf _
  have K1 : q_L g mX12_elementStep 4 0 0 Q 0 0 14 [(0, .ref 102), (1, .int x1), (2, .int x2)] [.long v4.1] v4.2 := by
    refine q_lstore_n [(3, .long v4.1), (0, .ref 102), (1, .int x1), (2, .int x2)] rfl (by decide) rfl dX12_elementStep_14 ?_
    refine q_aload_n 1 rfl rfl dX12_elementStep_15 ?_
    obtain ⟨r6, e7, h⟩ := q_bind h
    refine q_callV (ci := 12) (d := 3) (Mc := mX12_pop) (kc := 0) (nc := 0) [] okX12_pop (q_sh102 (w.fx fx5)) (by decide) rfl lmX12_586 inX12_pop seX12_pop rfl (Nat.le_of_ble_eq_true rfl) (Nat.le_of_ble_eq_true rfl) (Nat.le_refl _) (Nat.le_refl _) dX12_elementStep_16 (q_L.deep (by decide) (kX12_pop (Q := fun r S' => r = some (.long r6.1) ∧ S' = r6.2) (w.fx fx5) e7 ⟨rfl, rfl⟩)) (q_kJ ?_)
    have fx8 : q_Fx S r6.2 := q_Fx.tr (fx5) (fxX12_pop e7)
    refine q_lstore [(5, .long r6.1), (3, .long v4.1), (0, .ref 102), (1, .int x1), (2, .int x2)] (by decide) rfl dX12_elementStep_19 ?_
    refine q_aload_n 2 rfl rfl dX12_elementStep_21 ?_
    obtain ⟨r9, e10, h⟩ := q_bind h
    refine q_callV (ci := 12) (d := 3) (Mc := mX12_pop) (kc := 0) (nc := 0) [] okX12_pop (q_sh102 (w.fx fx8)) (by decide) rfl lmX12_586 inX12_pop seX12_pop rfl (Nat.le_of_ble_eq_true rfl) (Nat.le_of_ble_eq_true rfl) (Nat.le_refl _) (Nat.le_refl _) dX12_elementStep_22 (q_L.deep (by decide) (kX12_pop (Q := fun r S' => r = some (.long r9.1) ∧ S' = r9.2) (w.fx fx8) e10 ⟨rfl, rfl⟩)) (q_kJ ?_)
    have fx11 : q_Fx S r9.2 := q_Fx.tr (fx8) (fxX12_pop e10)
    refine q_lstore [(7, .long r9.1), (5, .long r6.1), (3, .long v4.1), (0, .ref 102), (1, .int x1), (2, .int x2)] (by decide) rfl dX12_elementStep_25 ?_
    refine q_lload 0 rfl dX12_elementStep_27 ?_
    refine q_ldc2 lkX12_553 dX12_elementStep_29 ?_
    refine q_lcmp dX12_elementStep_32 ?_
    refine q_if_ne 43 (by decide) dX12_elementStep_33 (fun c => ?_) (fun c => ?_)
    · rw [if_neg c] at h
      refine q_lload 0 rfl dX12_elementStep_43 ?_
      obtain ⟨r12, e13, h⟩ := q_bind h
      refine q_callS (d := 3) (Mc := mX12_objectOf) (kc := 0) (nc := 0) [.long r9.1] okX12_objectOf lmX12_566 inX12_objectOf rfl (Nat.le_of_ble_eq_true rfl) (Nat.le_of_ble_eq_true rfl) (Nat.le_refl _) (Nat.le_refl _) dX12_elementStep_45 (q_L.deep (by decide) (kX12_objectOf (Q := fun r S' => r = some (.int r12) ∧ S' = r9.2) (w.fx fx11) e13 ⟨rfl, rfl⟩)) (q_kI ?_)
      refine q_istore [(9, .int r12), (7, .long r9.1), (5, .long r6.1), (3, .long v4.1), (0, .ref 102), (1, .int x1), (2, .int x2)] (by decide) rfl dX12_elementStep_48 ?_
      refine q_lload 2 rfl dX12_elementStep_50 ?_
      refine q_lconst (v := (0 : Int64)) (by decide) dX12_elementStep_52 ?_
      refine q_lcmp dX12_elementStep_53 ?_
      refine q_if_lt 71 (by decide) dX12_elementStep_54 (fun c => ?_) (fun c => ?_)
      · rw [if_pos c] at h
        refine q_aload_n 4 rfl rfl dX12_elementStep_71 ?_
        refine q_iconst (v := (1 : Int32)) (by decide) dX12_elementStep_72 ?_
        refine q_iload_n 6 rfl rfl dX12_elementStep_73 ?_
        obtain ⟨r14, e15, h⟩ := q_bind h
        refine q_callV (ci := 12) (d := 3) (Mc := mX12_raise) (kc := 0) (nc := 0) [.int (1 : Int32), .int x2] okX12_raise (q_sh102 (w.fx fx11)) (by decide) rfl lmX12_603 inX12_raise seX12_raise rfl (Nat.le_of_ble_eq_true rfl) (Nat.le_of_ble_eq_true rfl) (Nat.le_refl _) (Nat.le_refl _) dX12_elementStep_74 (q_L.deep (by decide) (kX12_raise (Q := fun r S' => r = none ∧ S' = r14) (w.fx fx11) hq (aM.fx fx11) e15 ⟨rfl, rfl⟩)) (q_kV ?_)
        have fx16 : q_Fx S r14 := q_Fx.tr (fx11) (fxX12_raise e15)
        obtain rfl := Option.some.inj h
        exact q_vret rfl dX12_elementStep_77 hQ
      · rw [if_neg c] at h
        refine q_lload 2 rfl dX12_elementStep_57 ?_
        refine q_aload_n 4 rfl rfl dX12_elementStep_59 ?_
        refine q_getR (q_sh102 (w.fx fx11)) (by decide) (by decide) rfl lfX12_86 dX12_elementStep_60 (r := 179) (q_wr102_31 (w.fx fx11)) ?_
        refine q_iload 0 rfl dX12_elementStep_63 ?_
        obtain ⟨hg17, h⟩ := q_guard h
        refine q_iald (q_sh179 (w.fx fx11)) (q_inb_in hg17) dX12_elementStep_65 ?_
        refine q_i2l dX12_elementStep_66 ?_
        refine q_lcmp dX12_elementStep_67 ?_
        refine q_if_lt 78 (by decide) dX12_elementStep_68 (fun c => ?_) (fun c => ?_)
        · rw [if_pos c] at h
          refine q_aload_n 4 rfl rfl dX12_elementStep_78 ?_
          refine q_getR (q_sh102 (w.fx fx11)) (by decide) (by decide) rfl lfX12_83 dX12_elementStep_79 (r := 178) (q_wr102_30 (w.fx fx11)) ?_
          refine q_iload 0 rfl dX12_elementStep_82 ?_
          obtain ⟨hg18, h⟩ := q_guard h
          refine q_iald (q_sh178 (w.fx fx11)) (q_inb_in hg18) dX12_elementStep_84 ?_
          refine q_lload 2 rfl dX12_elementStep_85 ?_
          refine q_l2i dX12_elementStep_87 ?_
          refine q_iadd dX12_elementStep_88 ?_
          refine q_istore [(10, .int ((r9.2.2.1 178 r12.toNatClampNeg) + r6.1.toInt32)), (9, .int r12), (7, .long r9.1), (5, .long r6.1), (3, .long v4.1), (0, .ref 102), (1, .int x1), (2, .int x2)] (by decide) rfl dX12_elementStep_89 ?_
          refine q_iload_n 6 rfl rfl dX12_elementStep_91 ?_
          refine q_bipush (v := (33 : Int32)) (by decide) dX12_elementStep_92 ?_
          refine q_icmp_ne 111 (by decide) dX12_elementStep_94 (fun c => ?_) (fun c => ?_)
          · rw [if_neg c] at h
            refine q_lload_n 4 rfl rfl dX12_elementStep_111 ?_
            obtain ⟨r19, e20, h⟩ := q_bind h
            refine q_callS (d := 3) (Mc := mX12_isObject) (kc := 0) (nc := 0) [.long v4.1] okX12_isObject lmX12_621 inX12_isObject rfl (Nat.le_of_ble_eq_true rfl) (Nat.le_of_ble_eq_true rfl) (Nat.le_refl _) (Nat.le_refl _) dX12_elementStep_112 (q_L.deep (by decide) (kX12_isObject (Q := fun r S' => r = some (.int (q_b r19)) ∧ S' = r9.2) (w.fx fx11) e20 ⟨rfl, rfl⟩)) (q_kI ?_)
            refine q_if_eq 154 (by decide) dX12_elementStep_115 (fun c => ?_) (fun c => ?_)
            · have c := q_b_0.mp c; rw [q_if0 c] at h
              refine q_aload_n 5 rfl rfl dX12_elementStep_154 ?_
              refine q_getR (q_sh102 (w.fx fx11)) (by decide) (by decide) rfl lfX12_89 dX12_elementStep_155 (r := 180) (q_wr102_32 (w.fx fx11)) ?_
              refine q_iload 0 rfl dX12_elementStep_158 ?_
              refine q_lload_n 4 rfl rfl dX12_elementStep_160 ?_
              obtain ⟨hg21, h⟩ := q_guard h
              refine q_last (q_sh180 (w.fx fx11)) (q_inb_in hg21) dX12_elementStep_161 ?_
              obtain ⟨S22, e23, h⟩ := q_bindS h
              refine q_st e23 ?_
              have fx24 : q_Fx S S22 := e23 ▸ q_Fx.sJ (fx11)
              refine q_aload_n 5 rfl rfl dX12_elementStep_162 ?_
              obtain ⟨r25, e26, h⟩ := q_bind h
              refine q_callV (ci := 12) (d := 3) (Mc := mX12_next) (kc := 0) (nc := 0) [] okX12_next (q_sh102 (w.fx fx24)) (by decide) rfl lmX12_600 inX12_next seX12_next rfl (Nat.le_of_ble_eq_true rfl) (Nat.le_of_ble_eq_true rfl) (Nat.le_refl _) (Nat.le_refl _) dX12_elementStep_163 (q_L.deep (by decide) (kX12_next (Q := fun r S' => r = none ∧ S' = r25) (w.fx fx24) e26 ⟨rfl, rfl⟩)) (q_kV ?_)
              have fx27 : q_Fx S r25 := q_Fx.tr (fx24) (fxX12_next e26)
              obtain rfl := Option.some.inj h
              exact q_vret rfl dX12_elementStep_166 hQ
            · have c := q_b_n.mp c; rw [q_if1 c] at h
              refine q_aload_n 5 rfl rfl dX12_elementStep_118 ?_
              refine q_getR (q_sh102 (w.fx fx11)) (by decide) (by decide) rfl lfX12_10 dX12_elementStep_119 (r := q) (aM.fx fx11).1 ?_
              refine q_aload_n 5 rfl rfl dX12_elementStep_122 ?_
              refine q_getR (q_sh102 (w.fx fx11)) (by decide) (by decide) rfl lfX12_77 dX12_elementStep_123 (r := 176) (q_wr102_28 (w.fx fx11)) ?_
              refine q_lload_n 4 rfl rfl dX12_elementStep_126 ?_
              obtain ⟨r28, e29, h⟩ := q_bind h
              refine q_callS (d := 3) (Mc := mX12_objectOf) (kc := 0) (nc := 0) [.long v4.1] okX12_objectOf lmX12_566 inX12_objectOf rfl (Nat.le_of_ble_eq_true rfl) (Nat.le_of_ble_eq_true rfl) (Nat.le_refl _) (Nat.le_refl _) dX12_elementStep_127 (q_L.deep (by decide) (kX12_objectOf (Q := fun r S' => r = some (.int r28) ∧ S' = r9.2) (w.fx fx11) e29 ⟨rfl, rfl⟩)) (q_kI ?_)
              obtain ⟨hg30, h⟩ := q_guard h
              refine q_iald (q_sh176 (w.fx fx11)) (q_inb_in hg30) dX12_elementStep_130 ?_
              refine q_aload_n 5 rfl rfl dX12_elementStep_131 ?_
              refine q_getR (q_sh102 (w.fx fx11)) (by decide) (by decide) rfl lfX12_77 dX12_elementStep_132 (r := 176) (q_wr102_28 (w.fx fx11)) ?_
              refine q_iload 1 rfl dX12_elementStep_135 ?_
              obtain ⟨hg31, h⟩ := q_guard h
              refine q_iald (q_sh176 (w.fx fx11)) (q_inb_in hg31) dX12_elementStep_137 ?_
              obtain ⟨r32, e33, h⟩ := q_bind h
              refine q_callS (d := 3) (Mc := mX12_elementOf) (kc := 0) (nc := 0) [.int (r9.2.2.1 176 r12.toNatClampNeg)] okX12_elementOf lmX12_470 inX12_elementOf rfl (Nat.le_of_ble_eq_true rfl) (Nat.le_of_ble_eq_true rfl) (Nat.le_refl _) (Nat.le_refl _) dX12_elementStep_138 (q_L.deep (by decide) (kX12_elementOf (Q := fun r S' => r = some (.int r32) ∧ S' = r9.2) (w.fx fx11) e33 ⟨rfl, rfl⟩)) (q_kI ?_)
              obtain ⟨r34, e35, h⟩ := q_bind h
              refine q_callS (d := 3) (Mc := mX12_isBelow) (kc := 0) (nc := 0) [.ref q, .int (r9.2.2.1 176 r28.toNatClampNeg), .int r32] okX12_isBelow lmX12_436 inX12_isBelow rfl (Nat.le_of_ble_eq_true rfl) (Nat.le_of_ble_eq_true rfl) (Nat.le_refl _) (Nat.le_refl _) dX12_elementStep_141 (q_L.deep (by decide) (kX12_isBelow (Q := fun r S' => r = some (.int (q_b r34)) ∧ S' = r9.2) (w.fx fx11) hq e35 ⟨rfl, rfl⟩)) (q_kI ?_)
              refine q_if_ne 154 (by decide) dX12_elementStep_144 (fun c => ?_) (fun c => ?_)
              · have c := q_b_n.mp c; rw [q_if1 c] at h
                refine q_aload_n 5 rfl rfl dX12_elementStep_154 ?_
                refine q_getR (q_sh102 (w.fx fx11)) (by decide) (by decide) rfl lfX12_89 dX12_elementStep_155 (r := 180) (q_wr102_32 (w.fx fx11)) ?_
                refine q_iload 0 rfl dX12_elementStep_158 ?_
                refine q_lload_n 4 rfl rfl dX12_elementStep_160 ?_
                obtain ⟨hg36, h⟩ := q_guard h
                refine q_last (q_sh180 (w.fx fx11)) (q_inb_in hg36) dX12_elementStep_161 ?_
                obtain ⟨S37, e38, h⟩ := q_bindS h
                refine q_st e38 ?_
                have fx39 : q_Fx S S37 := e38 ▸ q_Fx.sJ (fx11)
                refine q_aload_n 5 rfl rfl dX12_elementStep_162 ?_
                obtain ⟨r40, e41, h⟩ := q_bind h
                refine q_callV (ci := 12) (d := 3) (Mc := mX12_next) (kc := 0) (nc := 0) [] okX12_next (q_sh102 (w.fx fx39)) (by decide) rfl lmX12_600 inX12_next seX12_next rfl (Nat.le_of_ble_eq_true rfl) (Nat.le_of_ble_eq_true rfl) (Nat.le_refl _) (Nat.le_refl _) dX12_elementStep_163 (q_L.deep (by decide) (kX12_next (Q := fun r S' => r = none ∧ S' = r40) (w.fx fx39) e41 ⟨rfl, rfl⟩)) (q_kV ?_)
                have fx42 : q_Fx S r40 := q_Fx.tr (fx39) (fxX12_next e41)
                obtain rfl := Option.some.inj h
                exact q_vret rfl dX12_elementStep_166 hQ
              · have c := q_b_0.mp c; rw [q_if0 c] at h
                refine q_aload_n 5 rfl rfl dX12_elementStep_147 ?_
                refine q_iconst (v := (5 : Int32)) (by decide) dX12_elementStep_148 ?_
                refine q_iload_n 7 rfl rfl dX12_elementStep_149 ?_
                obtain ⟨r43, e44, h⟩ := q_bind h
                refine q_callV (ci := 12) (d := 3) (Mc := mX12_raise) (kc := 0) (nc := 0) [.int (5 : Int32), .int x2] okX12_raise (q_sh102 (w.fx fx11)) (by decide) rfl lmX12_603 inX12_raise seX12_raise rfl (Nat.le_of_ble_eq_true rfl) (Nat.le_of_ble_eq_true rfl) (Nat.le_refl _) (Nat.le_refl _) dX12_elementStep_150 (q_L.deep (by decide) (kX12_raise (Q := fun r S' => r = none ∧ S' = r43) (w.fx fx11) hq (aM.fx fx11) e44 ⟨rfl, rfl⟩)) (q_kV ?_)
                have fx45 : q_Fx S r43 := q_Fx.tr (fx11) (fxX12_raise e44)
                obtain rfl := Option.some.inj h
                exact q_vret rfl dX12_elementStep_153 hQ
          · rw [if_pos c] at h
            refine q_aload_n 5 rfl rfl dX12_elementStep_97 ?_
            refine q_aload_n 5 rfl rfl dX12_elementStep_98 ?_
            refine q_getR (q_sh102 (w.fx fx11)) (by decide) (by decide) rfl lfX12_89 dX12_elementStep_99 (r := 180) (q_wr102_32 (w.fx fx11)) ?_
            refine q_iload 0 rfl dX12_elementStep_102 ?_
            obtain ⟨hg46, h⟩ := q_guard h
            refine q_lald (q_sh180 (w.fx fx11)) (q_inb_in hg46) dX12_elementStep_104 ?_
            obtain ⟨r47, e48, h⟩ := q_bind h
            refine q_callV (ci := 12) (d := 3) (Mc := mX12_push) (kc := 0) (nc := 0) [.long (r9.2.2.2.1 180 ((r9.2.2.1 178 r12.toNatClampNeg) + r6.1.toInt32).toNatClampNeg)] okX12_push (q_sh102 (w.fx fx11)) (by decide) rfl lmX12_582 inX12_push seX12_push rfl (Nat.le_of_ble_eq_true rfl) (Nat.le_of_ble_eq_true rfl) (Nat.le_refl _) (Nat.le_refl _) dX12_elementStep_105 (q_L.deep (by decide) (kX12_push (Q := fun r S' => r = none ∧ S' = r47) (w.fx fx11) e48 ⟨rfl, rfl⟩)) (q_kV ?_)
            have fx49 : q_Fx S r47 := q_Fx.tr (fx11) (fxX12_push e48)
            refine q_goto 162 (by decide) dX12_elementStep_108 ?_
            refine q_aload_n 5 rfl rfl dX12_elementStep_162 ?_
            obtain ⟨r50, e51, h⟩ := q_bind h
            refine q_callV (ci := 12) (d := 3) (Mc := mX12_next) (kc := 0) (nc := 0) [] okX12_next (q_sh102 (w.fx fx49)) (by decide) rfl lmX12_600 inX12_next seX12_next rfl (Nat.le_of_ble_eq_true rfl) (Nat.le_of_ble_eq_true rfl) (Nat.le_refl _) (Nat.le_refl _) dX12_elementStep_163 (q_L.deep (by decide) (kX12_next (Q := fun r S' => r = none ∧ S' = r50) (w.fx fx49) e51 ⟨rfl, rfl⟩)) (q_kV ?_)
            have fx52 : q_Fx S r50 := q_Fx.tr (fx49) (fxX12_next e51)
            obtain rfl := Option.some.inj h
            exact q_vret rfl dX12_elementStep_166 hQ
        · rw [if_neg c] at h
          refine q_aload_n 4 rfl rfl dX12_elementStep_71 ?_
          refine q_iconst (v := (1 : Int32)) (by decide) dX12_elementStep_72 ?_
          refine q_iload_n 6 rfl rfl dX12_elementStep_73 ?_
          obtain ⟨r53, e54, h⟩ := q_bind h
          refine q_callV (ci := 12) (d := 3) (Mc := mX12_raise) (kc := 0) (nc := 0) [.int (1 : Int32), .int x2] okX12_raise (q_sh102 (w.fx fx11)) (by decide) rfl lmX12_603 inX12_raise seX12_raise rfl (Nat.le_of_ble_eq_true rfl) (Nat.le_of_ble_eq_true rfl) (Nat.le_refl _) (Nat.le_refl _) dX12_elementStep_74 (q_L.deep (by decide) (kX12_raise (Q := fun r S' => r = none ∧ S' = r53) (w.fx fx11) hq (aM.fx fx11) e54 ⟨rfl, rfl⟩)) (q_kV ?_)
          have fx55 : q_Fx S r53 := q_Fx.tr (fx11) (fxX12_raise e54)
          obtain rfl := Option.some.inj h
          exact q_vret rfl dX12_elementStep_77 hQ
    · rw [if_pos c] at h
      refine q_aload_n 3 rfl rfl dX12_elementStep_36 ?_
      refine q_iconst (v := (0 : Int32)) (by decide) dX12_elementStep_37 ?_
      refine q_iload_n 5 rfl rfl dX12_elementStep_38 ?_
      obtain ⟨r56, e57, h⟩ := q_bind h
      refine q_callV (ci := 12) (d := 3) (Mc := mX12_raise) (kc := 0) (nc := 0) [.int (0 : Int32), .int x2] okX12_raise (q_sh102 (w.fx fx11)) (by decide) rfl lmX12_603 inX12_raise seX12_raise rfl (Nat.le_of_ble_eq_true rfl) (Nat.le_of_ble_eq_true rfl) (Nat.le_refl _) (Nat.le_refl _) dX12_elementStep_39 (q_L.deep (by decide) (kX12_raise (Q := fun r S' => r = none ∧ S' = r56) (w.fx fx11) hq (aM.fx fx11) e57 ⟨rfl, rfl⟩)) (q_kV ?_)
      have fx58 : q_Fx S r56 := q_Fx.tr (fx11) (fxX12_raise e57)
      obtain rfl := Option.some.inj h
      exact q_vret rfl dX12_elementStep_42 hQ
  replace h := hv
  refine q_icmp_ne 13 (by decide) dX12_elementStep_3 (fun c => ?_) (fun c => ?_)
  · rw [if_neg c] at h
    refine q_lconst (v := (0 : Int64)) (by decide) dX12_elementStep_13 ?_
    obtain rfl := Option.some.inj h
    refine q_sub [0, 1, 2] rfl ?_
    exact K1
  · rw [if_pos c] at h
    refine q_aload_n 0 rfl rfl dX12_elementStep_6 ?_
    obtain ⟨r1, e2, h⟩ := q_bind h
    refine q_callV (ci := 12) (d := 3) (Mc := mX12_pop) (kc := 0) (nc := 0) [] okX12_pop (q_sh102 w) (by decide) rfl lmX12_586 inX12_pop seX12_pop rfl (Nat.le_of_ble_eq_true rfl) (Nat.le_of_ble_eq_true rfl) (Nat.le_refl _) (Nat.le_refl _) dX12_elementStep_7 (q_L.deep (by decide) (kX12_pop (Q := fun r S' => r = some (.long r1.1) ∧ S' = r1.2) w e2 ⟨rfl, rfl⟩)) (q_kJ ?_)
    have fx3 : q_Fx S r1.2 := q_Fx.tr (q_Fx.rf S) (fxX12_pop e2)
    refine q_goto 14 (by decide) dX12_elementStep_10 ?_
    obtain rfl := Option.some.inj h
    refine q_sub [0, 1, 2] rfl ?_
    exact K1
