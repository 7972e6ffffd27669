set_option maxRecDepth 20000 in
theorem kX12_catchLine {S : QS} {g : QG} {Q : Option Value → QS → Prop} {q : Nat} {x2 : Int32} {x3 : Int32} {x4 : Int32} {r : Bool × QS} (w : q_Wire S) (hq : q_qok q) (h : fX12_catchLine S q x2 x3 x4 = some r) (hQ : Q (some (.int (q_b r.1))) r.2) : q_M g mX12_catchLine 7 0 0 [.ref 102, .ref q, .int x2, .int x3, .int x4] S Q := by
  unfold fX12_catchLine at h
  show q_L g mX12_catchLine 7 0 0 Q 0 0 0 [(0, .ref 102), (1, .ref q), (2, .int x2), (3, .int x3), (4, .int x4)] [] S
  refine q_aload_n 1 rfl rfl dX12_catchLine_0 ?_
  refine q_getI (q_shQ0 w hq) (by decide) (by decide) rfl lfX12_324 dX12_catchLine_1 ?_
  refine q_bipush (v := (64 : Int32)) (by decide) dX12_catchLine_4 ?_
  refine q_icmp_ne 15 (by decide) dX12_catchLine_6 (fun c => ?_) (fun c => ?_)
  · rw [if_neg c] at h
    refine q_aload_n 0 rfl rfl dX12_catchLine_15 ?_
    refine q_iload_n 3 rfl rfl dX12_catchLine_16 ?_
    refine q_iconst (v := (1 : Int32)) (by decide) dX12_catchLine_17 ?_
    refine q_iadd dX12_catchLine_18 ?_
    obtain ⟨r1, e2, h⟩ := q_bind h
    refine q_callV (ci := 12) (d := 6) (Mc := mX12_labelAt) (kc := 0) (nc := 0) [.int (x3 + (1 : Int32))] okX12_labelAt (q_sh102 w) (by decide) rfl lmX12_356 inX12_labelAt seX12_labelAt rfl (Nat.le_of_ble_eq_true rfl) (Nat.le_of_ble_eq_true rfl) (Nat.le_refl _) (Nat.le_refl _) dX12_catchLine_19 (q_L.deep (by decide) (kX12_labelAt (Q := fun r S' => r = some (.int r1) ∧ S' = S) w e2 ⟨rfl, rfl⟩)) (q_kI ?_)
    refine q_istore [(5, .int r1), (0, .ref 102), (1, .ref q), (2, .int x2), (3, .int x3), (4, .int x4)] (by decide) rfl dX12_catchLine_22 ?_
    refine q_iload 0 rfl dX12_catchLine_24 ?_
    refine q_if_ge 37 (by decide) dX12_catchLine_26 (fun c => ?_) (fun c => ?_)
    · rw [if_pos c] at h
      refine q_aload_n 1 rfl rfl dX12_catchLine_37 ?_
      refine q_iload_n 4 rfl rfl dX12_catchLine_38 ?_
      refine q_iconst (v := (2 : Int32)) (by decide) dX12_catchLine_39 ?_
      refine q_iadd dX12_catchLine_40 ?_
      obtain ⟨r3, e4, h⟩ := q_bind h
      refine q_callV (ci := 12) (d := 6) (Mc := mX12_labelAt) (kc := 0) (nc := 0) [.int (x3 + (2 : Int32))] okX12_labelAt (q_sh102 w) (by decide) rfl lmX12_356 inX12_labelAt seX12_labelAt rfl (Nat.le_of_ble_eq_true rfl) (Nat.le_of_ble_eq_true rfl) (Nat.le_refl _) (Nat.le_refl _) dX12_catchLine_41 (q_L.deep (by decide) (kX12_labelAt (Q := fun r S' => r = some (.int r3) ∧ S' = S) w e4 ⟨rfl, rfl⟩)) (q_kI ?_)
      refine q_istore [(6, .int r3), (5, .int r1), (0, .ref 102), (1, .ref q), (2, .int x2), (3, .int x3), (4, .int x4)] (by decide) rfl dX12_catchLine_44 ?_
      refine q_iload 0 rfl dX12_catchLine_46 ?_
      refine q_iload 1 rfl dX12_catchLine_48 ?_
      refine q_icmp_gt 61 (by decide) dX12_catchLine_50 (fun c => ?_) (fun c => ?_)
      · rw [if_pos c] at h
        refine q_aload_n 2 rfl rfl dX12_catchLine_61 ?_
        refine q_iload_n 5 rfl rfl dX12_catchLine_62 ?_
        refine q_iconst (v := (3 : Int32)) (by decide) dX12_catchLine_63 ?_
        refine q_iadd dX12_catchLine_64 ?_
        obtain ⟨r5, e6, h⟩ := q_bind h
        refine q_callV (ci := 12) (d := 6) (Mc := mX12_labelAt) (kc := 0) (nc := 0) [.int (x3 + (3 : Int32))] okX12_labelAt (q_sh102 w) (by decide) rfl lmX12_356 inX12_labelAt seX12_labelAt rfl (Nat.le_of_ble_eq_true rfl) (Nat.le_of_ble_eq_true rfl) (Nat.le_refl _) (Nat.le_refl _) dX12_catchLine_65 (q_L.deep (by decide) (kX12_labelAt (Q := fun r S' => r = some (.int r5) ∧ S' = S) w e6 ⟨rfl, rfl⟩)) (q_kI ?_)
        refine q_istore [(7, .int r5), (6, .int r3), (5, .int r1), (0, .ref 102), (1, .ref q), (2, .int x2), (3, .int x3), (4, .int x4)] (by decide) rfl dX12_catchLine_68 ?_
        refine q_iload 0 rfl dX12_catchLine_70 ?_
        refine q_if_lt 82 (by decide) dX12_catchLine_72 (fun c => ?_) (fun c => ?_)
        · rw [if_pos c] at h
          refine q_aload_n 3 rfl rfl dX12_catchLine_82 ?_
          refine q_iload_n 6 rfl rfl dX12_catchLine_83 ?_
          refine q_iconst (v := (3 : Int32)) (by decide) dX12_catchLine_84 ?_
          refine q_iadd dX12_catchLine_85 ?_
          obtain ⟨r7, e8, h⟩ := q_bind h
          refine q_callV (ci := 12) (d := 6) (Mc := mX12_wrong) (kc := 0) (nc := 0) [.int (x3 + (3 : Int32))] okX12_wrong (q_sh102 w) (by decide) rfl lmX12_254 inX12_wrong seX12_wrong rfl (Nat.le_of_ble_eq_true rfl) (Nat.le_of_ble_eq_true rfl) (Nat.le_refl _) (Nat.le_refl _) dX12_catchLine_86 (q_L.deep (by decide) (kX12_wrong (Q := fun r S' => r = some (.int (q_b r7.1)) ∧ S' = r7.2) w e8 ⟨rfl, rfl⟩)) (q_kI ?_)
          have fx9 : q_Fx S r7.2 := q_Fx.tr (q_Fx.rf S) (fxX12_wrong e8)
          obtain rfl := Option.some.inj h
          exact q_iret rfl (q_b_nar _) dX12_catchLine_89 hQ
        · rw [if_neg c] at h
          refine q_iload 0 rfl dX12_catchLine_75 ?_
          refine q_iload 7 rfl dX12_catchLine_77 ?_
          refine q_icmp_lt 90 (by decide) dX12_catchLine_79 (fun c => ?_) (fun c => ?_)
          · rw [if_pos c] at h
            refine q_aload_n 3 rfl rfl dX12_catchLine_90 ?_
            refine q_aload_n 4 rfl rfl dX12_catchLine_91 ?_
            refine q_iload_n 6 rfl rfl dX12_catchLine_92 ?_
            refine q_iconst (v := (4 : Int32)) (by decide) dX12_catchLine_93 ?_
            refine q_iadd dX12_catchLine_94 ?_
            obtain ⟨r10, e11, h⟩ := q_bind h
            refine q_callV (ci := 12) (d := 6) (Mc := mX12_classOfToken) (kc := 0) (nc := 0) [.ref q, .int (x3 + (4 : Int32))] okX12_classOfToken (q_sh102 w) (by decide) rfl lmX12_250 inX12_classOfToken seX12_classOfToken rfl (Nat.le_of_ble_eq_true rfl) (Nat.le_of_ble_eq_true rfl) (Nat.le_refl _) (Nat.le_refl _) dX12_catchLine_95 (q_L.deep (by decide) (kX12_classOfToken (Q := fun r S' => r = some (.int r10) ∧ S' = S) w hq e11 ⟨rfl, rfl⟩)) (q_kI ?_)
            refine q_istore [(8, .int r10), (7, .int r5), (6, .int r3), (5, .int r1), (0, .ref 102), (1, .ref q), (2, .int x2), (3, .int x3), (4, .int x4)] (by decide) rfl dX12_catchLine_98 ?_
            refine q_iload 0 rfl dX12_catchLine_100 ?_
            refine q_if_lt 115 (by decide) dX12_catchLine_102 (fun c => ?_) (fun c => ?_)
            · rw [if_pos c] at h
              refine q_aload_n 4 rfl rfl dX12_catchLine_115 ?_
              refine q_iload_n 7 rfl rfl dX12_catchLine_116 ?_
              refine q_iconst (v := (4 : Int32)) (by decide) dX12_catchLine_117 ?_
              refine q_iadd dX12_catchLine_118 ?_
              obtain ⟨r12, e13, h⟩ := q_bind h
              refine q_callV (ci := 12) (d := 6) (Mc := mX12_wrong) (kc := 0) (nc := 0) [.int (x3 + (4 : Int32))] okX12_wrong (q_sh102 w) (by decide) rfl lmX12_254 inX12_wrong seX12_wrong rfl (Nat.le_of_ble_eq_true rfl) (Nat.le_of_ble_eq_true rfl) (Nat.le_refl _) (Nat.le_refl _) dX12_catchLine_119 (q_L.deep (by decide) (kX12_wrong (Q := fun r S' => r = some (.int (q_b r12.1)) ∧ S' = r12.2) w e13 ⟨rfl, rfl⟩)) (q_kI ?_)
              have fx14 : q_Fx S r12.2 := q_Fx.tr (q_Fx.rf S) (fxX12_wrong e13)
              obtain rfl := Option.some.inj h
              exact q_iret rfl (q_b_nar _) dX12_catchLine_122 hQ
            · rw [if_neg c] at h
              refine q_aload_n 5 rfl rfl dX12_catchLine_105 ?_
              refine q_iload 0 rfl dX12_catchLine_106 ?_
              refine q_iconst (v := (1 : Int32)) (by decide) dX12_catchLine_108 ?_
              obtain ⟨r15, e16, h⟩ := q_bind h
              refine q_callS (d := 6) (Mc := mX12_isAtOrBelow) (kc := 0) (nc := 0) [.ref q, .int r10, .int (1 : Int32)] okX12_isAtOrBelow lmX12_263 inX12_isAtOrBelow rfl (Nat.le_of_ble_eq_true rfl) (Nat.le_of_ble_eq_true rfl) (Nat.le_refl _) (Nat.le_refl _) dX12_catchLine_109 (q_L.deep (by decide) (kX12_isAtOrBelow (Q := fun r S' => r = some (.int (q_b r15)) ∧ S' = S) w hq e16 ⟨rfl, rfl⟩)) (q_kI ?_)
              refine q_if_ne 123 (by decide) dX12_catchLine_112 (fun c => ?_) (fun c => ?_)
              · have c := q_b_n.mp c; rw [q_if1 c] at h
                refine q_aload_n 5 rfl rfl dX12_catchLine_123 ?_
                refine q_getR (q_shQ0 w hq) (by decide) (by decide) rfl lfX12_359 dX12_catchLine_124 (r := (q + 21)) (q_wrQ0_27 w hq) ?_
                refine q_aload_n 5 rfl rfl dX12_catchLine_127 ?_
                refine q_getI (q_shQ0 w hq) (by decide) (by decide) rfl lfX12_324 dX12_catchLine_128 ?_
                refine q_iload_n 6 rfl rfl dX12_catchLine_131 ?_
                obtain ⟨hg17, h⟩ := q_guard h
                refine q_iast (q_shQ21 w hq) (q_inb_in hg17) dX12_catchLine_132 ?_
                obtain ⟨S18, e19, h⟩ := q_bindS h
                refine q_st e19 ?_
                have fx20 : q_Fx S S18 := e19 ▸ q_Fx.sI (q_Fx.rf S)
                refine q_aload_n 5 rfl rfl dX12_catchLine_133 ?_
                refine q_getR (q_shQ0 (w.fx fx20) hq) (by decide) (by decide) rfl lfX12_362 dX12_catchLine_134 (r := (q + 22)) (q_wrQ0_28 (w.fx fx20) hq) ?_
                refine q_aload_n 5 rfl rfl dX12_catchLine_137 ?_
                refine q_getI (q_shQ0 (w.fx fx20) hq) (by decide) (by decide) rfl lfX12_324 dX12_catchLine_138 ?_
                refine q_iload 3 rfl dX12_catchLine_141 ?_
                obtain ⟨hg21, h⟩ := q_guard h
                refine q_iast (q_shQ22 (w.fx fx20) hq) (q_inb_in hg21) dX12_catchLine_143 ?_
                obtain ⟨S22, e23, h⟩ := q_bindS h
                refine q_st e23 ?_
                have fx24 : q_Fx S S22 := e23 ▸ q_Fx.sI (fx20)
                refine q_aload_n 5 rfl rfl dX12_catchLine_144 ?_
                refine q_getR (q_shQ0 (w.fx fx24) hq) (by decide) (by decide) rfl lfX12_365 dX12_catchLine_145 (r := (q + 23)) (q_wrQ0_29 (w.fx fx24) hq) ?_
                refine q_aload_n 5 rfl rfl dX12_catchLine_148 ?_
                refine q_getI (q_shQ0 (w.fx fx24) hq) (by decide) (by decide) rfl lfX12_324 dX12_catchLine_149 ?_
                refine q_iload 2 rfl dX12_catchLine_152 ?_
                obtain ⟨hg25, h⟩ := q_guard h
                refine q_iast (q_shQ23 (w.fx fx24) hq) (q_inb_in hg25) dX12_catchLine_154 ?_
                obtain ⟨S26, e27, h⟩ := q_bindS h
                refine q_st e27 ?_
                have fx28 : q_Fx S S26 := e27 ▸ q_Fx.sI (fx24)
                refine q_aload_n 5 rfl rfl dX12_catchLine_155 ?_
                refine q_getR (q_shQ0 (w.fx fx28) hq) (by decide) (by decide) rfl lfX12_368 dX12_catchLine_156 (r := (q + 24)) (q_wrQ0_30 (w.fx fx28) hq) ?_
                refine q_aload_n 5 rfl rfl dX12_catchLine_159 ?_
                refine q_getI (q_shQ0 (w.fx fx28) hq) (by decide) (by decide) rfl lfX12_324 dX12_catchLine_160 ?_
                refine q_iload 1 rfl dX12_catchLine_163 ?_
                obtain ⟨hg29, h⟩ := q_guard h
                refine q_iast (q_shQ24 (w.fx fx28) hq) (q_inb_in hg29) dX12_catchLine_165 ?_
                obtain ⟨S30, e31, h⟩ := q_bindS h
                refine q_st e31 ?_
                have fx32 : q_Fx S S30 := e31 ▸ q_Fx.sI (fx28)
                refine q_aload_n 5 rfl rfl dX12_catchLine_166 ?_
                refine q_getR (q_shQ0 (w.fx fx32) hq) (by decide) (by decide) rfl lfX12_371 dX12_catchLine_167 (r := (q + 25)) (q_wrQ0_31 (w.fx fx32) hq) ?_
                refine q_aload_n 5 rfl rfl dX12_catchLine_170 ?_
                refine q_getI (q_shQ0 (w.fx fx32) hq) (by decide) (by decide) rfl lfX12_324 dX12_catchLine_171 ?_
                refine q_iload 0 rfl dX12_catchLine_174 ?_
                obtain ⟨hg33, h⟩ := q_guard h
                refine q_iast (q_shQ25 (w.fx fx32) hq) (q_inb_in hg33) dX12_catchLine_176 ?_
                obtain ⟨S34, e35, h⟩ := q_bindS h
                refine q_st e35 ?_
                have fx36 : q_Fx S S34 := e35 ▸ q_Fx.sI (fx32)
                refine q_aload_n 5 rfl rfl dX12_catchLine_177 ?_
                refine q_dup rfl dX12_catchLine_178 ?_
                refine q_getI (q_shQ0 (w.fx fx36) hq) (by decide) (by decide) rfl lfX12_324 dX12_catchLine_179 ?_
                refine q_iconst (v := (1 : Int32)) (by decide) dX12_catchLine_182 ?_
                refine q_iadd dX12_catchLine_183 ?_
                refine q_putI (q_shQ0 (w.fx fx36) hq) (by decide) (by decide) rfl rfl ⟨rfl, rfl⟩ lfX12_324 dX12_catchLine_184 ?_
                obtain ⟨S37, e38, h⟩ := q_bindS h
                refine q_st e38 ?_
                have fx39 : q_Fx S S37 := e38 ▸ q_Fx.sI (fx36)
                refine q_iconst (v := (1 : Int32)) (by decide) dX12_catchLine_187 ?_
                obtain rfl := Option.some.inj h
                exact q_iret rfl (by decide) dX12_catchLine_188 hQ
              · have c := q_b_0.mp c; rw [q_if0 c] at h
                refine q_aload_n 4 rfl rfl dX12_catchLine_115 ?_
                refine q_iload_n 7 rfl rfl dX12_catchLine_116 ?_
                refine q_iconst (v := (4 : Int32)) (by decide) dX12_catchLine_117 ?_
                refine q_iadd dX12_catchLine_118 ?_
                obtain ⟨r40, e41, h⟩ := q_bind h
                refine q_callV (ci := 12) (d := 6) (Mc := mX12_wrong) (kc := 0) (nc := 0) [.int (x3 + (4 : Int32))] okX12_wrong (q_sh102 w) (by decide) rfl lmX12_254 inX12_wrong seX12_wrong rfl (Nat.le_of_ble_eq_true rfl) (Nat.le_of_ble_eq_true rfl) (Nat.le_refl _) (Nat.le_refl _) dX12_catchLine_119 (q_L.deep (by decide) (kX12_wrong (Q := fun r S' => r = some (.int (q_b r40.1)) ∧ S' = r40.2) w e41 ⟨rfl, rfl⟩)) (q_kI ?_)
                have fx42 : q_Fx S r40.2 := q_Fx.tr (q_Fx.rf S) (fxX12_wrong e41)
                obtain rfl := Option.some.inj h
                exact q_iret rfl (q_b_nar _) dX12_catchLine_122 hQ
          · rw [if_neg c] at h
            refine q_aload_n 3 rfl rfl dX12_catchLine_82 ?_
            refine q_iload_n 6 rfl rfl dX12_catchLine_83 ?_
            refine q_iconst (v := (3 : Int32)) (by decide) dX12_catchLine_84 ?_
            refine q_iadd dX12_catchLine_85 ?_
            obtain ⟨r43, e44, h⟩ := q_bind h
            refine q_callV (ci := 12) (d := 6) (Mc := mX12_wrong) (kc := 0) (nc := 0) [.int (x3 + (3 : Int32))] okX12_wrong (q_sh102 w) (by decide) rfl lmX12_254 inX12_wrong seX12_wrong rfl (Nat.le_of_ble_eq_true rfl) (Nat.le_of_ble_eq_true rfl) (Nat.le_refl _) (Nat.le_refl _) dX12_catchLine_86 (q_L.deep (by decide) (kX12_wrong (Q := fun r S' => r = some (.int (q_b r43.1)) ∧ S' = r43.2) w e44 ⟨rfl, rfl⟩)) (q_kI ?_)
            have fx45 : q_Fx S r43.2 := q_Fx.tr (q_Fx.rf S) (fxX12_wrong e44)
            obtain rfl := Option.some.inj h
            exact q_iret rfl (q_b_nar _) dX12_catchLine_89 hQ
      · rw [if_neg c] at h
        refine q_aload_n 2 rfl rfl dX12_catchLine_53 ?_
        refine q_iload_n 5 rfl rfl dX12_catchLine_54 ?_
        refine q_iconst (v := (2 : Int32)) (by decide) dX12_catchLine_55 ?_
        refine q_iadd dX12_catchLine_56 ?_
        obtain ⟨r46, e47, h⟩ := q_bind h
        refine q_callV (ci := 12) (d := 6) (Mc := mX12_wrong) (kc := 0) (nc := 0) [.int (x3 + (2 : Int32))] okX12_wrong (q_sh102 w) (by decide) rfl lmX12_254 inX12_wrong seX12_wrong rfl (Nat.le_of_ble_eq_true rfl) (Nat.le_of_ble_eq_true rfl) (Nat.le_refl _) (Nat.le_refl _) dX12_catchLine_57 (q_L.deep (by decide) (kX12_wrong (Q := fun r S' => r = some (.int (q_b r46.1)) ∧ S' = r46.2) w e47 ⟨rfl, rfl⟩)) (q_kI ?_)
        have fx48 : q_Fx S r46.2 := q_Fx.tr (q_Fx.rf S) (fxX12_wrong e47)
        obtain rfl := Option.some.inj h
        exact q_iret rfl (q_b_nar _) dX12_catchLine_60 hQ
    · rw [if_neg c] at h
      refine q_aload_n 1 rfl rfl dX12_catchLine_29 ?_
      refine q_iload_n 4 rfl rfl dX12_catchLine_30 ?_
      refine q_iconst (v := (1 : Int32)) (by decide) dX12_catchLine_31 ?_
      refine q_iadd dX12_catchLine_32 ?_
      obtain ⟨r49, e50, h⟩ := q_bind h
      refine q_callV (ci := 12) (d := 6) (Mc := mX12_wrong) (kc := 0) (nc := 0) [.int (x3 + (1 : Int32))] okX12_wrong (q_sh102 w) (by decide) rfl lmX12_254 inX12_wrong seX12_wrong rfl (Nat.le_of_ble_eq_true rfl) (Nat.le_of_ble_eq_true rfl) (Nat.le_refl _) (Nat.le_refl _) dX12_catchLine_33 (q_L.deep (by decide) (kX12_wrong (Q := fun r S' => r = some (.int (q_b r49.1)) ∧ S' = r49.2) w e50 ⟨rfl, rfl⟩)) (q_kI ?_)
      have fx51 : q_Fx S r49.2 := q_Fx.tr (q_Fx.rf S) (fxX12_wrong e50)
      obtain rfl := Option.some.inj h
      exact q_iret rfl (q_b_nar _) dX12_catchLine_36 hQ
  · rw [if_pos c] at h
    refine q_aload_n 0 rfl rfl dX12_catchLine_9 ?_
    refine q_iload_n 3 rfl rfl dX12_catchLine_10 ?_
    obtain ⟨r52, e53, h⟩ := q_bind h
    refine q_callV (ci := 12) (d := 6) (Mc := mX12_wrong) (kc := 0) (nc := 0) [.int x3] okX12_wrong (q_sh102 w) (by decide) rfl lmX12_254 inX12_wrong seX12_wrong rfl (Nat.le_of_ble_eq_true rfl) (Nat.le_of_ble_eq_true rfl) (Nat.le_refl _) (Nat.le_refl _) dX12_catchLine_11 (q_L.deep (by decide) (kX12_wrong (Q := fun r S' => r = some (.int (q_b r52.1)) ∧ S' = r52.2) w e53 ⟨rfl, rfl⟩)) (q_kI ?_)
    have fx54 : q_Fx S r52.2 := q_Fx.tr (q_Fx.rf S) (fxX12_wrong e53)
    obtain rfl := Option.some.inj h
    exact q_iret rfl (q_b_nar _) dX12_catchLine_14 hQ
set_option maxRecDepth 20000 in
theorem kX12_localStep {S : QS} {g : QG} {Q : Option Value → QS → Prop} {q : Nat} {x2 : Int32} {x3 : Int32} {x4 : Int32} {r : Bool × QS} (w : q_Wire S) (hq : q_qok q) (h : fX12_localStep S q x2 x3 x4 = some r) (hQ : Q (some (.int (q_b r.1))) r.2) : q_M g mX12_localStep 1 0 0 [.ref 102, .ref q, .int x2, .int x3, .int x4] S Q := by
  unfold fX12_localStep at h
  show q_L g mX12_localStep 1 0 0 Q 0 0 0 [(0, .ref 102), (1, .ref q), (2, .int x2), (3, .int x3), (4, .int x4)] [] S
  refine q_aload_n 0 rfl rfl dX12_localStep_0 ?_
  refine q_iload 4 rfl dX12_localStep_1 ?_
  obtain ⟨r1, e2, h⟩ := q_bind h
  refine q_callV (ci := 12) (d := 0) (Mc := mX12_number) (kc := 0) (nc := 0) [.int x4] okX12_number (q_sh102 w) (by decide) rfl lmX12_146 inX12_number seX12_number rfl (Nat.le_of_ble_eq_true rfl) (Nat.le_of_ble_eq_true rfl) (Nat.le_refl _) (Nat.le_refl _) dX12_localStep_3 (q_L.deep (by decide) (kX12_number (Q := fun r S' => r = some (.long r1) ∧ S' = S) w e2 ⟨rfl, rfl⟩)) (q_kJ ?_)
  refine q_lstore [(5, .long r1), (0, .ref 102), (1, .ref q), (2, .int x2), (3, .int x3), (4, .int x4)] (by decide) rfl dX12_localStep_6 ?_
  refine q_lload 0 rfl dX12_localStep_8 ?_
  refine q_lconst (v := (0 : Int64)) (by decide) dX12_localStep_10 ?_
  refine q_lcmp dX12_localStep_11 ?_
  refine q_if_lt 28 (by decide) dX12_localStep_12 (fun c => ?_) (fun c => ?_)
  · rw [if_pos c] at h
    refine q_aload_n 1 rfl rfl dX12_localStep_28 ?_
    refine q_iload 5 rfl dX12_localStep_29 ?_
    obtain ⟨r3, e4, h⟩ := q_bind h
    refine q_callV (ci := 12) (d := 0) (Mc := mX12_wrong) (kc := 0) (nc := 0) [.int x4] okX12_wrong (q_sh102 w) (by decide) rfl lmX12_254 inX12_wrong seX12_wrong rfl (Nat.le_of_ble_eq_true rfl) (Nat.le_of_ble_eq_true rfl) (Nat.le_refl _) (Nat.le_refl _) dX12_localStep_31 (q_L.deep (by decide) (kX12_wrong (Q := fun r S' => r = some (.int (q_b r3.1)) ∧ S' = r3.2) w e4 ⟨rfl, rfl⟩)) (q_kI ?_)
    have fx5 : q_Fx S r3.2 := q_Fx.tr (q_Fx.rf S) (fxX12_wrong e4)
    obtain rfl := Option.some.inj h
    exact q_iret rfl (q_b_nar _) dX12_localStep_34 hQ
  · rw [if_neg c] at h
    refine q_lload 0 rfl dX12_localStep_15 ?_
    refine q_aload_n 2 rfl rfl dX12_localStep_17 ?_
    refine q_getR (q_shQ0 w hq) (by decide) (by decide) rfl lfX12_316 dX12_localStep_18 (r := (q + 11)) (q_wrQ0_17 w hq) ?_
    refine q_iload_n 3 rfl rfl dX12_localStep_21 ?_
    obtain ⟨hg6, h⟩ := q_guard h
    refine q_iald (q_shQ11 w hq) (q_inb_in hg6) dX12_localStep_22 ?_
    refine q_i2l dX12_localStep_23 ?_
    refine q_lcmp dX12_localStep_24 ?_
    refine q_if_lt 35 (by decide) dX12_localStep_25 (fun c => ?_) (fun c => ?_)
    · rw [if_pos c] at h
      refine q_aload_n 2 rfl rfl dX12_localStep_35 ?_
      refine q_getR (q_shQ0 w hq) (by decide) (by decide) rfl lfX12_376 dX12_localStep_36 (r := (q + 16)) (q_wrQ0_22 w hq) ?_
      refine q_iload_n 4 rfl rfl dX12_localStep_39 ?_
      refine q_lload 0 rfl dX12_localStep_40 ?_
      refine q_l2i dX12_localStep_42 ?_
      obtain ⟨hg7, h⟩ := q_guard h
      refine q_iast (q_shQ16 w hq) (q_inb_in hg7) dX12_localStep_43 ?_
      obtain ⟨S8, e9, h⟩ := q_bindS h
      refine q_st e9 ?_
      have fx10 : q_Fx S S8 := e9 ▸ q_Fx.sI (q_Fx.rf S)
      refine q_iconst (v := (1 : Int32)) (by decide) dX12_localStep_44 ?_
      obtain rfl := Option.some.inj h
      exact q_iret rfl (by decide) dX12_localStep_45 hQ
    · rw [if_neg c] at h
      refine q_aload_n 1 rfl rfl dX12_localStep_28 ?_
      refine q_iload 5 rfl dX12_localStep_29 ?_
      obtain ⟨r11, e12, h⟩ := q_bind h
      refine q_callV (ci := 12) (d := 0) (Mc := mX12_wrong) (kc := 0) (nc := 0) [.int x4] okX12_wrong (q_sh102 w) (by decide) rfl lmX12_254 inX12_wrong seX12_wrong rfl (Nat.le_of_ble_eq_true rfl) (Nat.le_of_ble_eq_true rfl) (Nat.le_refl _) (Nat.le_refl _) dX12_localStep_31 (q_L.deep (by decide) (kX12_wrong (Q := fun r S' => r = some (.int (q_b r11.1)) ∧ S' = r11.2) w e12 ⟨rfl, rfl⟩)) (q_kI ?_)
      have fx13 : q_Fx S r11.2 := q_Fx.tr (q_Fx.rf S) (fxX12_wrong e12)
      obtain rfl := Option.some.inj h
      exact q_iret rfl (q_b_nar _) dX12_localStep_34 hQ
set_option maxRecDepth 20000 in
theorem kX12_makes_47 {S : QS} {g : QG} {Q : Option Value → QS → Prop} {q : Nat} {y2 : Int32} {y3 : Int32} {y5 : Int32} {r : Bool × QS} (w : q_Wire S) (hq : q_qok q) (h : fX12_makes_47 S q y2 y3 y5 = some r) (hQ : Q (some (.int (q_b r.1))) r.2) : q_L g mX12_makes 7 0 0 Q 0 0 47 [(1, .ref q), (2, .int y2), (3, .int y3), (5, .int y5)] [] S := by
  unfold fX12_makes_47 at h
  refine q_aload_n 0 rfl rfl dX12_makes_47 ?_
  refine q_getR (q_shQ0 w hq) (by decide) (by decide) rfl lfX12_391 dX12_makes_48 (r := (q + 20)) (q_wrQ0_26 w hq) ?_
  refine q_aload_n 0 rfl rfl dX12_makes_51 ?_
  refine q_getI (q_shQ0 w hq) (by decide) (by decide) rfl lfX12_321 dX12_makes_52 ?_
  refine q_iload_n 2 rfl rfl dX12_makes_55 ?_
  refine q_bipush (v := (30 : Int32)) (by decide) dX12_makes_56 ?_
  obtain ⟨v1, hv, h⟩ := q_bind h
  have K1 : q_L g mX12_makes 7 0 0 Q 0 0 84 [(1, .ref q), (2, .int y2)] [.int v1, .int (S.2.1 q 4), .ref (q + 20)] S := by
    obtain ⟨hg2, h⟩ := q_guard h
    refine q_iast (q_shQ20 w hq) (q_inb_in hg2) dX12_makes_84 ?_
    obtain ⟨S3, e4, h⟩ := q_bindS h
    refine q_st e4 ?_
    have fx5 : q_Fx S S3 := e4 ▸ q_Fx.sI (q_Fx.rf S)
    refine q_aload_n 0 rfl rfl dX12_makes_85 ?_
    refine q_getR (q_shQ0 (w.fx fx5) hq) (by decide) (by decide) rfl lfX12_376 dX12_makes_86 (r := (q + 16)) (q_wrQ0_22 (w.fx fx5) hq) ?_
    refine q_iload_n 1 rfl rfl dX12_makes_89 ?_
    refine q_aload_n 0 rfl rfl dX12_makes_90 ?_
    refine q_getI (q_shQ0 (w.fx fx5) hq) (by decide) (by decide) rfl lfX12_321 dX12_makes_91 ?_
    obtain ⟨hg6, h⟩ := q_guard h
    refine q_iast (q_shQ16 (w.fx fx5) hq) (q_inb_in hg6) dX12_makes_94 ?_
    obtain ⟨S7, e8, h⟩ := q_bindS h
    refine q_st e8 ?_
    have fx9 : q_Fx S S7 := e8 ▸ q_Fx.sI (fx5)
    refine q_aload_n 0 rfl rfl dX12_makes_95 ?_
    refine q_dup rfl dX12_makes_96 ?_
    refine q_getI (q_shQ0 (w.fx fx9) hq) (by decide) (by decide) rfl lfX12_321 dX12_makes_97 ?_
    refine q_iconst (v := (1 : Int32)) (by decide) dX12_makes_100 ?_
    refine q_iadd dX12_makes_101 ?_
    refine q_putI (q_shQ0 (w.fx fx9) hq) (by decide) (by decide) rfl rfl ⟨rfl, rfl⟩ lfX12_321 dX12_makes_102 ?_
    obtain ⟨S10, e11, h⟩ := q_bindS h
    refine q_st e11 ?_
    have fx12 : q_Fx S S10 := e11 ▸ q_Fx.sI (fx9)
    refine q_iconst (v := (1 : Int32)) (by decide) dX12_makes_105 ?_
    obtain rfl := Option.some.inj h
    exact q_iret rfl (by decide) dX12_makes_106 hQ
  replace h := hv
  refine q_icmp_ne 69 (by decide) dX12_makes_58 (fun c => ?_) (fun c => ?_)
  · rw [if_neg c] at h
    refine q_iload 3 rfl dX12_makes_69 ?_
    refine q_if_ge 79 (by decide) dX12_makes_71 (fun c => ?_) (fun c => ?_)
    · rw [if_pos c] at h
      refine q_bipush (v := (48 : Int32)) (by decide) dX12_makes_79 ?_
      refine q_iload 3 rfl dX12_makes_81 ?_
      refine q_iadd dX12_makes_83 ?_
      obtain rfl := Option.some.inj h
      refine q_sub [0, 1] rfl ?_
      exact K1
    · rw [if_neg c] at h
      refine q_bipush (v := (40 : Int32)) (by decide) dX12_makes_74 ?_
      refine q_goto 84 (by decide) dX12_makes_76 ?_
      obtain rfl := Option.some.inj h
      refine q_sub [0, 1] rfl ?_
      exact K1
  · rw [if_pos c] at h
    refine q_bipush (v := (8 : Int32)) (by decide) dX12_makes_61 ?_
    refine q_iload 3 rfl dX12_makes_63 ?_
    refine q_iadd dX12_makes_65 ?_
    refine q_goto 84 (by decide) dX12_makes_66 ?_
    obtain rfl := Option.some.inj h
    refine q_sub [0, 1] rfl ?_
    exact K1
set_option maxRecDepth 20000 in
theorem kX12_makes {S : QS} {g : QG} {Q : Option Value → QS → Prop} {q : Nat} {x2 : Int32} {x3 : Int32} {x4 : Int32} {r : Bool × QS} (w : q_Wire S) (hq : q_qok q) (h : fX12_makes S q x2 x3 x4 = some r) (hQ : Q (some (.int (q_b r.1))) r.2) : q_M g mX12_makes 7 0 0 [.ref 102, .ref q, .int x2, .int x3, .int x4] S Q := by
  unfold fX12_makes at h
  show q_L g mX12_makes 7 0 0 Q 0 0 0 [(0, .ref 102), (1, .ref q), (2, .int x2), (3, .int x3), (4, .int x4)] [] S
  refine q_aload_n 0 rfl rfl dX12_makes_0 ?_
  refine q_iload 4 rfl dX12_makes_1 ?_
  refine q_ldcS (j := 43) (r := 1000086) rfl rfl dX12_makes_3 ?_
  obtain ⟨r13, e14, h⟩ := q_bind h
  refine q_callV (ci := 12) (d := 6) (Mc := mX12_is) (kc := 0) (nc := 0) [.int x4, .ref 1000086] okX12_is (q_sh102 w) (by decide) rfl lmX12_163 inX12_is seX12_is rfl (Nat.le_of_ble_eq_true rfl) (Nat.le_of_ble_eq_true rfl) (Nat.le_refl _) (Nat.le_refl _) dX12_makes_5 (q_L.deep (by decide) (kX12_is (Q := fun r S' => r = some (.int (q_b r13)) ∧ S' = S) w e14 ⟨rfl, rfl⟩)) (q_kI ?_)
  obtain ⟨v17, hv, h⟩ := q_bind h
  have K2 : q_L g mX12_makes 7 0 0 Q 0 0 22 [(0, .ref 102), (1, .ref q), (2, .int x2), (3, .int x3), (4, .int x4)] [.int v17] S := by
    refine q_istore [(5, .int v17), (0, .ref 102), (1, .ref q), (2, .int x2), (3, .int x3), (4, .int x4)] (by decide) rfl dX12_makes_22 ?_
    refine q_iload 0 rfl dX12_makes_24 ?_
    refine q_if_ge 47 (by decide) dX12_makes_26 (fun c => ?_) (fun c => ?_)
    · rw [if_pos c] at h
      refine q_sub [2, 3, 4, 0] rfl ?_
      exact kX12_makes_47 w hq h hQ
    · rw [if_neg c] at h
      refine q_aload_n 1 rfl rfl dX12_makes_29 ?_
      refine q_iload 5 rfl dX12_makes_30 ?_
      refine q_ldcS (j := 43) (r := 1000086) rfl rfl dX12_makes_32 ?_
      obtain ⟨r18, e19, h⟩ := q_bind h
      refine q_callV (ci := 12) (d := 6) (Mc := mX12_is) (kc := 0) (nc := 0) [.int x4, .ref 1000086] okX12_is (q_sh102 w) (by decide) rfl lmX12_163 inX12_is seX12_is rfl (Nat.le_of_ble_eq_true rfl) (Nat.le_of_ble_eq_true rfl) (Nat.le_refl _) (Nat.le_refl _) dX12_makes_34 (q_L.deep (by decide) (kX12_is (Q := fun r S' => r = some (.int (q_b r18)) ∧ S' = S) w e19 ⟨rfl, rfl⟩)) (q_kI ?_)
      refine q_if_ne 47 (by decide) dX12_makes_37 (fun c => ?_) (fun c => ?_)
      · have c := q_b_n.mp c; rw [q_if1 c] at h
        refine q_sub [2, 3, 4, 0] rfl ?_
        exact kX12_makes_47 w hq h hQ
      · have c := q_b_0.mp c; rw [q_if0 c] at h
        refine q_aload_n 1 rfl rfl dX12_makes_40 ?_
        refine q_iload 5 rfl dX12_makes_41 ?_
        obtain ⟨r20, e21, h⟩ := q_bind h
        refine q_callV (ci := 12) (d := 6) (Mc := mX12_wrong) (kc := 0) (nc := 0) [.int x4] okX12_wrong (q_sh102 w) (by decide) rfl lmX12_254 inX12_wrong seX12_wrong rfl (Nat.le_of_ble_eq_true rfl) (Nat.le_of_ble_eq_true rfl) (Nat.le_refl _) (Nat.le_refl _) dX12_makes_43 (q_L.deep (by decide) (kX12_wrong (Q := fun r S' => r = some (.int (q_b r20.1)) ∧ S' = r20.2) w e21 ⟨rfl, rfl⟩)) (q_kI ?_)
        have fx22 : q_Fx S r20.2 := q_Fx.tr (q_Fx.rf S) (fxX12_wrong e21)
        obtain rfl := Option.some.inj h
        exact q_iret rfl (q_b_nar _) dX12_makes_46 hQ
  replace h := hv
  refine q_if_eq 15 (by decide) dX12_makes_8 (fun c => ?_) (fun c => ?_)
  · have c := q_b_0.mp c; rw [q_if0 c] at h
    refine q_aload_n 0 rfl rfl dX12_makes_15 ?_
    refine q_aload_n 1 rfl rfl dX12_makes_16 ?_
    refine q_iload 4 rfl dX12_makes_17 ?_
    obtain ⟨r15, e16, h⟩ := q_bind h
    refine q_callV (ci := 12) (d := 6) (Mc := mX12_classOfToken) (kc := 0) (nc := 0) [.ref q, .int x4] okX12_classOfToken (q_sh102 w) (by decide) rfl lmX12_250 inX12_classOfToken seX12_classOfToken rfl (Nat.le_of_ble_eq_true rfl) (Nat.le_of_ble_eq_true rfl) (Nat.le_refl _) (Nat.le_refl _) dX12_makes_19 (q_L.deep (by decide) (kX12_classOfToken (Q := fun r S' => r = some (.int r15) ∧ S' = S) w hq e16 ⟨rfl, rfl⟩)) (q_kI ?_)
    obtain rfl := Option.some.inj h
    refine q_sub [0, 1, 2, 3, 4] rfl ?_
    exact K2
  · have c := q_b_n.mp c; rw [q_if1 c] at h
    refine q_iconst (v := (-1 : Int32)) (by decide) dX12_makes_11 ?_
    refine q_goto 22 (by decide) dX12_makes_12 ?_
    obtain rfl := Option.some.inj h
    refine q_sub [0, 1, 2, 3, 4] rfl ?_
    exact K2
set_option maxRecDepth 20000 in
theorem kX12_reference_133 {S : QS} {g : QG} {Q : Option Value → QS → Prop} {q : Nat} {y2 : Int32} {y6 : Int32} {y7 : Int32} {r : Bool × QS} (w : q_Wire S) (hq : q_qok q) (h : fX12_reference_133 S q y2 y6 y7 = some r) (hQ : Q (some (.int (q_b r.1))) r.2) : q_L g mX12_reference 6 0 0 Q 0 0 133 [(1, .ref q), (2, .int y2), (6, .int y6), (7, .int y7)] [] S := by
  unfold fX12_reference_133 at h
  refine q_aload_n 0 rfl rfl dX12_reference_133 ?_
  refine q_getR (q_shQ0 w hq) (by decide) (by decide) rfl lfX12_376 dX12_reference_134 (r := (q + 16)) (q_wrQ0_22 w hq) ?_
  refine q_iload_n 1 rfl rfl dX12_reference_137 ?_
  refine q_iload 3 rfl dX12_reference_138 ?_
  obtain ⟨hg1, h⟩ := q_guard h
  refine q_iast (q_shQ16 w hq) (q_inb_in hg1) dX12_reference_140 ?_
  obtain ⟨S2, e3, h⟩ := q_bindS h
  refine q_st e3 ?_
  have fx4 : q_Fx S S2 := e3 ▸ q_Fx.sI (q_Fx.rf S)
  refine q_aload_n 0 rfl rfl dX12_reference_141 ?_
  refine q_getR (q_shQ0 (w.fx fx4) hq) (by decide) (by decide) rfl lfX12_379 dX12_reference_142 (r := (q + 17)) (q_wrQ0_23 (w.fx fx4) hq) ?_
  refine q_iload_n 1 rfl rfl dX12_reference_145 ?_
  refine q_iload 2 rfl dX12_reference_146 ?_
  obtain ⟨hg5, h⟩ := q_guard h
  refine q_iast (q_shQ17 (w.fx fx4) hq) (q_inb_in hg5) dX12_reference_148 ?_
  obtain ⟨S6, e7, h⟩ := q_bindS h
  refine q_st e7 ?_
  have fx8 : q_Fx S S6 := e7 ▸ q_Fx.sI (fx4)
  refine q_iconst (v := (1 : Int32)) (by decide) dX12_reference_149 ?_
  obtain rfl := Option.some.inj h
  exact q_iret rfl (by decide) dX12_reference_150 hQ
set_option maxRecDepth 20000 in
theorem kX12_reference_110 {S : QS} {g : QG} {Q : Option Value → QS → Prop} {q : Nat} {y2 : Int32} {y3 : Int32} {y4 : Int32} {y6 : Int32} {y7 : Int32} {r : Bool × QS} (w : q_Wire S) (hq : q_qok q) (h : fX12_reference_110 S q y2 y3 y4 y6 y7 = some r) (hQ : Q (some (.int (q_b r.1))) r.2) : q_L g mX12_reference 6 0 0 Q 0 0 110 [(0, .ref 102), (1, .ref q), (2, .int y2), (3, .int y3), (4, .int y4), (6, .int y6), (7, .int y7)] [] S := by
  unfold fX12_reference_110 at h
  refine q_iload_n 3 rfl rfl dX12_reference_110 ?_
  refine q_bipush (v := (40 : Int32)) (by decide) dX12_reference_111 ?_
  refine q_icmp_ne 133 (by decide) dX12_reference_113 (fun c => ?_) (fun c => ?_)
  · rw [if_neg c] at h
    refine q_sub [1, 2, 5, 6] rfl ?_
    exact kX12_reference_133 w hq h hQ
  · rw [if_pos c] at h
    refine q_aload_n 1 rfl rfl dX12_reference_116 ?_
    refine q_getR (q_shQ0 w hq) (by decide) (by decide) rfl lfX12_298 dX12_reference_117 (r := (q + 7)) (q_wrQ0_13 w hq) ?_
    refine q_iload 6 rfl dX12_reference_120 ?_
    obtain ⟨hg9, h⟩ := q_guard h
    refine q_zald (q_shQ7 w hq) (q_inb_in hg9) dX12_reference_122 ?_
    refine q_if_ne 133 (by decide) dX12_reference_123 (fun c => ?_) (fun c => ?_)
    · rw [if_neg c] at h
      refine q_sub [1, 2, 5, 6] rfl ?_
      exact kX12_reference_133 w hq h hQ
    · rw [if_pos c] at h
      refine q_aload_n 0 rfl rfl dX12_reference_126 ?_
      refine q_iload 4 rfl dX12_reference_127 ?_
      obtain ⟨r10, e11, h⟩ := q_bind h
      refine q_callV (ci := 12) (d := 5) (Mc := mX12_wrong) (kc := 0) (nc := 0) [.int y4] okX12_wrong (q_sh102 w) (by decide) rfl lmX12_254 inX12_wrong seX12_wrong rfl (Nat.le_of_ble_eq_true rfl) (Nat.le_of_ble_eq_true rfl) (Nat.le_refl _) (Nat.le_refl _) dX12_reference_129 (q_L.deep (by decide) (kX12_wrong (Q := fun r S' => r = some (.int (q_b r10.1)) ∧ S' = r10.2) w e11 ⟨rfl, rfl⟩)) (q_kI ?_)
      have fx12 : q_Fx S r10.2 := q_Fx.tr (q_Fx.rf S) (fxX12_wrong e11)
      obtain rfl := Option.some.inj h
      exact q_iret rfl (q_b_nar _) dX12_reference_132 hQ
set_option maxRecDepth 20000 in
theorem kX12_reference {S : QS} {g : QG} {Q : Option Value → QS → Prop} {q : Nat} {x2 : Int32} {x3 : Int32} {x4 : Int32} {r : Bool × QS} (w : q_Wire S) (hq : q_qok q) (h : fX12_reference S q x2 x3 x4 = some r) (hQ : Q (some (.int (q_b r.1))) r.2) : q_M g mX12_reference 6 0 0 [.ref 102, .ref q, .int x2, .int x3, .int x4] S Q := by
  unfold fX12_reference at h
  show q_L g mX12_reference 6 0 0 Q 0 0 0 [(0, .ref 102), (1, .ref q), (2, .int x2), (3, .int x3), (4, .int x4)] [] S
  refine q_aload_n 0 rfl rfl dX12_reference_0 ?_
  refine q_iload 4 rfl dX12_reference_1 ?_
  obtain ⟨r13, e14, h⟩ := q_bind h
  refine q_callV (ci := 12) (d := 5) (Mc := mX12_point) (kc := 0) (nc := 0) [.int x4] okX12_point (q_sh102 w) (by decide) rfl lmX12_142 inX12_point seX12_point rfl (Nat.le_of_ble_eq_true rfl) (Nat.le_of_ble_eq_true rfl) (Nat.le_refl _) (Nat.le_refl _) dX12_reference_3 (q_L.deep (by decide) (kX12_point (Q := fun r S' => r = some (.int r13) ∧ S' = S) w e14 ⟨rfl, rfl⟩)) (q_kI ?_)
  refine q_istore [(5, .int r13), (0, .ref 102), (1, .ref q), (2, .int x2), (3, .int x3), (4, .int x4)] (by decide) rfl dX12_reference_6 ?_
  refine q_aload_n 1 rfl rfl dX12_reference_8 ?_
  refine q_aload_n 2 rfl rfl dX12_reference_9 ?_
  refine q_aload_n 1 rfl rfl dX12_reference_10 ?_
  refine q_getR (q_sh102 w) (by decide) (by decide) rfl lfX12_26 dX12_reference_11 (r := 161) (q_wr102_8 w) ?_
  refine q_iload 5 rfl dX12_reference_14 ?_
  obtain ⟨hg15, h⟩ := q_guard h
  refine q_iald (q_sh161 w) (q_inb_in hg15) dX12_reference_16 ?_
  refine q_iload 0 rfl dX12_reference_17 ?_
  obtain ⟨r16, e17, h⟩ := q_bind h
  refine q_callV (ci := 12) (d := 5) (Mc := mX12_classOf) (kc := 0) (nc := 0) [.ref q, .int (S.2.1 161 x4.toNatClampNeg), .int r13] okX12_classOf (q_sh102 w) (by decide) rfl lmX12_240 inX12_classOf seX12_classOf rfl (Nat.le_of_ble_eq_true rfl) (Nat.le_of_ble_eq_true rfl) (Nat.le_refl _) (Nat.le_refl _) dX12_reference_19 (q_L.deep (by decide) (kX12_classOf (Q := fun r S' => r = some (.int r16) ∧ S' = S) w hq e17 ⟨rfl, rfl⟩)) (q_kI ?_)
  refine q_istore [(6, .int r16), (5, .int r13), (0, .ref 102), (1, .ref q), (2, .int x2), (3, .int x3), (4, .int x4)] (by decide) rfl dX12_reference_22 ?_
  refine q_iload 0 rfl dX12_reference_24 ?_
  refine q_if_ge 36 (by decide) dX12_reference_26 (fun c => ?_) (fun c => ?_)
  · rw [if_pos c] at h
    refine q_iload_n 5 rfl rfl dX12_reference_36 ?_
    refine q_bipush (v := (35 : Int32)) (by decide) dX12_reference_37 ?_
    obtain ⟨v27, hv, h⟩ := q_bind h
    have K1 : q_L g mX12_reference 6 0 0 Q 0 0 87 [(0, .ref 102), (1, .ref q), (2, .int x2), (3, .int x3), (4, .int x4), (6, .int r16)] [.int v27] S := by
      refine q_istore [(7, .int v27), (0, .ref 102), (1, .ref q), (2, .int x2), (3, .int x3), (4, .int x4), (6, .int r16)] (by decide) rfl dX12_reference_87 ?_
      refine q_iload 0 rfl dX12_reference_89 ?_
      refine q_if_lt 126 (by decide) dX12_reference_91 (fun c => ?_) (fun c => ?_)
      · rw [if_pos c] at h
        refine q_aload_n 1 rfl rfl dX12_reference_126 ?_
        refine q_iload 5 rfl dX12_reference_127 ?_
        obtain ⟨r28, e29, h⟩ := q_bind h
        refine q_callV (ci := 12) (d := 5) (Mc := mX12_wrong) (kc := 0) (nc := 0) [.int x4] okX12_wrong (q_sh102 w) (by decide) rfl lmX12_254 inX12_wrong seX12_wrong rfl (Nat.le_of_ble_eq_true rfl) (Nat.le_of_ble_eq_true rfl) (Nat.le_refl _) (Nat.le_refl _) dX12_reference_129 (q_L.deep (by decide) (kX12_wrong (Q := fun r S' => r = some (.int (q_b r28.1)) ∧ S' = r28.2) w e29 ⟨rfl, rfl⟩)) (q_kI ?_)
        have fx30 : q_Fx S r28.2 := q_Fx.tr (q_Fx.rf S) (fxX12_wrong e29)
        obtain rfl := Option.some.inj h
        exact q_iret rfl (q_b_nar _) dX12_reference_132 hQ
      · rw [if_neg c] at h
        refine q_iload_n 4 rfl rfl dX12_reference_94 ?_
        refine q_bipush (v := (39 : Int32)) (by decide) dX12_reference_95 ?_
        refine q_icmp_ne 110 (by decide) dX12_reference_97 (fun c => ?_) (fun c => ?_)
        · rw [if_neg c] at h
          refine q_sub [1, 2, 3, 4, 5, 6, 0] rfl ?_
          exact kX12_reference_110 w hq h hQ
        · rw [if_pos c] at h
          refine q_aload_n 2 rfl rfl dX12_reference_100 ?_
          refine q_getR (q_shQ0 w hq) (by decide) (by decide) rfl lfX12_298 dX12_reference_101 (r := (q + 7)) (q_wrQ0_13 w hq) ?_
          refine q_iload 0 rfl dX12_reference_104 ?_
          obtain ⟨hg31, h⟩ := q_guard h
          refine q_zald (q_shQ7 w hq) (q_inb_in hg31) dX12_reference_106 ?_
          refine q_if_ne 126 (by decide) dX12_reference_107 (fun c => ?_) (fun c => ?_)
          · rw [if_neg c] at h
            refine q_aload_n 1 rfl rfl dX12_reference_126 ?_
            refine q_iload 5 rfl dX12_reference_127 ?_
            obtain ⟨r32, e33, h⟩ := q_bind h
            refine q_callV (ci := 12) (d := 5) (Mc := mX12_wrong) (kc := 0) (nc := 0) [.int x4] okX12_wrong (q_sh102 w) (by decide) rfl lmX12_254 inX12_wrong seX12_wrong rfl (Nat.le_of_ble_eq_true rfl) (Nat.le_of_ble_eq_true rfl) (Nat.le_refl _) (Nat.le_refl _) dX12_reference_129 (q_L.deep (by decide) (kX12_wrong (Q := fun r S' => r = some (.int (q_b r32.1)) ∧ S' = r32.2) w e33 ⟨rfl, rfl⟩)) (q_kI ?_)
            have fx34 : q_Fx S r32.2 := q_Fx.tr (q_Fx.rf S) (fxX12_wrong e33)
            obtain rfl := Option.some.inj h
            exact q_iret rfl (q_b_nar _) dX12_reference_132 hQ
          · rw [if_pos c] at h
            refine q_sub [1, 2, 3, 4, 5, 6, 0] rfl ?_
            exact kX12_reference_110 w hq h hQ
    replace h := hv
    refine q_icmp_eq 48 (by decide) dX12_reference_39 (fun c => ?_) (fun c => ?_)
    · rw [if_pos c] at h
      refine q_aload_n 2 rfl rfl dX12_reference_48 ?_
      refine q_aload_n 3 rfl rfl dX12_reference_49 ?_
      refine q_iload 0 rfl dX12_reference_50 ?_
      refine q_iload 1 rfl dX12_reference_52 ?_
      refine q_iconst (v := (1 : Int32)) (by decide) dX12_reference_54 ?_
      refine q_iadd dX12_reference_55 ?_
      refine q_aload_n 2 rfl rfl dX12_reference_56 ?_
      refine q_getR (q_sh102 w) (by decide) (by decide) rfl lfX12_30 dX12_reference_57 (r := 162) (q_wr102_9 w) ?_
      refine q_iload 6 rfl dX12_reference_60 ?_
      obtain ⟨hg18, h⟩ := q_guard h
      refine q_iald (q_sh162 w) (q_inb_in hg18) dX12_reference_62 ?_
      obtain ⟨r19, e20, h⟩ := q_bind h
      refine q_callV (ci := 12) (d := 5) (Mc := mX12_fieldOf) (kc := 0) (nc := 0) [.ref q, .int r16, .int (r13 + (1 : Int32)), .int (S.2.1 162 x4.toNatClampNeg)] okX12_fieldOf (q_sh102 w) (by decide) rfl lmX12_281 inX12_fieldOf seX12_fieldOf rfl (Nat.le_of_ble_eq_true rfl) (Nat.le_of_ble_eq_true rfl) (Nat.le_refl _) (Nat.le_refl _) dX12_reference_63 (q_L.deep (by decide) (kX12_fieldOf (Q := fun r S' => r = some (.int r19) ∧ S' = S) w hq e20 ⟨rfl, rfl⟩)) (q_kI ?_)
      refine q_goto 87 (by decide) dX12_reference_66 ?_
      obtain rfl := Option.some.inj h
      refine q_sub [2, 3, 4, 5, 6, 0] rfl ?_
      exact K1
    · rw [if_neg c] at h
      refine q_iload_n 5 rfl rfl dX12_reference_42 ?_
      refine q_bipush (v := (36 : Int32)) (by decide) dX12_reference_43 ?_
      refine q_icmp_ne 69 (by decide) dX12_reference_45 (fun c => ?_) (fun c => ?_)
      · rw [if_neg c] at h
        refine q_aload_n 2 rfl rfl dX12_reference_69 ?_
        refine q_aload_n 3 rfl rfl dX12_reference_70 ?_
        refine q_iload 0 rfl dX12_reference_71 ?_
        refine q_iload 1 rfl dX12_reference_73 ?_
        refine q_iconst (v := (1 : Int32)) (by decide) dX12_reference_75 ?_
        refine q_iadd dX12_reference_76 ?_
        refine q_aload_n 2 rfl rfl dX12_reference_77 ?_
        refine q_getR (q_sh102 w) (by decide) (by decide) rfl lfX12_30 dX12_reference_78 (r := 162) (q_wr102_9 w) ?_
        refine q_iload 6 rfl dX12_reference_81 ?_
        obtain ⟨hg21, h⟩ := q_guard h
        refine q_iald (q_sh162 w) (q_inb_in hg21) dX12_reference_83 ?_
        obtain ⟨r22, e23, h⟩ := q_bind h
        refine q_callV (ci := 12) (d := 5) (Mc := mX12_bodyOf) (kc := 0) (nc := 0) [.ref q, .int r16, .int (r13 + (1 : Int32)), .int (S.2.1 162 x4.toNatClampNeg)] okX12_bodyOf (q_sh102 w) (by decide) rfl lmX12_295 inX12_bodyOf seX12_bodyOf rfl (Nat.le_of_ble_eq_true rfl) (Nat.le_of_ble_eq_true rfl) (Nat.le_refl _) (Nat.le_refl _) dX12_reference_84 (q_L.deep (by decide) (kX12_bodyOf (Q := fun r S' => r = some (.int r22) ∧ S' = S) w hq e23 ⟨rfl, rfl⟩)) (q_kI ?_)
        obtain rfl := Option.some.inj h
        refine q_sub [2, 3, 4, 5, 6, 0] rfl ?_
        exact K1
      · rw [if_pos c] at h
        refine q_aload_n 2 rfl rfl dX12_reference_48 ?_
        refine q_aload_n 3 rfl rfl dX12_reference_49 ?_
        refine q_iload 0 rfl dX12_reference_50 ?_
        refine q_iload 1 rfl dX12_reference_52 ?_
        refine q_iconst (v := (1 : Int32)) (by decide) dX12_reference_54 ?_
        refine q_iadd dX12_reference_55 ?_
        refine q_aload_n 2 rfl rfl dX12_reference_56 ?_
        refine q_getR (q_sh102 w) (by decide) (by decide) rfl lfX12_30 dX12_reference_57 (r := 162) (q_wr102_9 w) ?_
        refine q_iload 6 rfl dX12_reference_60 ?_
        obtain ⟨hg24, h⟩ := q_guard h
        refine q_iald (q_sh162 w) (q_inb_in hg24) dX12_reference_62 ?_
        obtain ⟨r25, e26, h⟩ := q_bind h
        refine q_callV (ci := 12) (d := 5) (Mc := mX12_fieldOf) (kc := 0) (nc := 0) [.ref q, .int r16, .int (r13 + (1 : Int32)), .int (S.2.1 162 x4.toNatClampNeg)] okX12_fieldOf (q_sh102 w) (by decide) rfl lmX12_281 inX12_fieldOf seX12_fieldOf rfl (Nat.le_of_ble_eq_true rfl) (Nat.le_of_ble_eq_true rfl) (Nat.le_refl _) (Nat.le_refl _) dX12_reference_63 (q_L.deep (by decide) (kX12_fieldOf (Q := fun r S' => r = some (.int r25) ∧ S' = S) w hq e26 ⟨rfl, rfl⟩)) (q_kI ?_)
        refine q_goto 87 (by decide) dX12_reference_66 ?_
        obtain rfl := Option.some.inj h
        refine q_sub [2, 3, 4, 5, 6, 0] rfl ?_
        exact K1
  · rw [if_neg c] at h
    refine q_aload_n 2 rfl rfl dX12_reference_29 ?_
    refine q_iload 6 rfl dX12_reference_30 ?_
    obtain ⟨r35, e36, h⟩ := q_bind h
    refine q_callV (ci := 12) (d := 5) (Mc := mX12_wrong) (kc := 0) (nc := 0) [.int x4] okX12_wrong (q_sh102 w) (by decide) rfl lmX12_254 inX12_wrong seX12_wrong rfl (Nat.le_of_ble_eq_true rfl) (Nat.le_of_ble_eq_true rfl) (Nat.le_refl _) (Nat.le_refl _) dX12_reference_32 (q_L.deep (by decide) (kX12_wrong (Q := fun r S' => r = some (.int (q_b r35.1)) ∧ S' = r35.2) w e36 ⟨rfl, rfl⟩)) (q_kI ?_)
    have fx37 : q_Fx S r35.2 := q_Fx.tr (q_Fx.rf S) (fxX12_wrong e36)
    obtain rfl := Option.some.inj h
    exact q_iret rfl (q_b_nar _) dX12_reference_35 hQ
set_option maxRecDepth 20000 in
theorem kX12_code_46 {S : QS} {g : QG} {Q : Option Value → QS → Prop} {q : Nat} {y2 : Int32} {y3 : Int32} {y4 : Int32} {y5 : Int32} {r : Bool × QS} (w : q_Wire S) (hq : q_qok q) (h : fX12_code_46 S q y2 y3 y4 y5 = some r) (hQ : Q (some (.int (q_b r.1))) r.2) : q_L g mX12_code 8 0 0 Q 0 0 46 [(0, .ref 102), (1, .ref q), (2, .int y2), (3, .int y3), (4, .int y4), (5, .int y5)] [] S := by
  unfold fX12_code_46 at h
  refine q_aload_n 1 rfl rfl dX12_code_46 ?_
  refine q_getI (q_shQ0 w hq) (by decide) (by decide) rfl lfX12_318 dX12_code_47 ?_
  refine q_istore [(6, .int (S.2.1 q 3)), (0, .ref 102), (1, .ref q), (2, .int y2), (3, .int y3), (4, .int y4), (5, .int y5)] (by decide) rfl dX12_code_50 ?_
  refine q_aload_n 1 rfl rfl dX12_code_52 ?_
  refine q_getR (q_sh102 w) (by decide) (by decide) rfl lfX12_55 dX12_code_53 (r := 169) (q_wr102_20 w) ?_
  refine q_iload 0 rfl dX12_code_56 ?_
  refine q_iload_n 4 rfl rfl dX12_code_58 ?_
  obtain ⟨hg1, h⟩ := q_guard h
  refine q_iast (q_sh169 w) (q_inb_in hg1) dX12_code_59 ?_
  obtain ⟨S2, e3, h⟩ := q_bindS h
  refine q_st e3 ?_
  have fx4 : q_Fx S S2 := e3 ▸ q_Fx.sI (q_Fx.rf S)
  refine q_aload_n 2 rfl rfl dX12_code_60 ?_
  refine q_getR (q_shQ0 (w.fx fx4) hq) (by decide) (by decide) rfl lfX12_353 dX12_code_61 (r := (q + 15)) (q_wrQ0_21 (w.fx fx4) hq) ?_
  refine q_iload 0 rfl dX12_code_64 ?_
  refine q_iload 6 rfl dX12_code_66 ?_
  obtain ⟨hg5, h⟩ := q_guard h
  refine q_iast (q_shQ15 (w.fx fx4) hq) (q_inb_in hg5) dX12_code_68 ?_
  obtain ⟨S6, e7, h⟩ := q_bindS h
  refine q_st e7 ?_
  have fx8 : q_Fx S S6 := e7 ▸ q_Fx.sI (fx4)
  refine q_aload_n 2 rfl rfl dX12_code_69 ?_
  refine q_getR (q_shQ0 (w.fx fx8) hq) (by decide) (by decide) rfl lfX12_374 dX12_code_70 (r := (q + 18)) (q_wrQ0_24 (w.fx fx8) hq) ?_
  refine q_iload 0 rfl dX12_code_73 ?_
  refine q_iload_n 3 rfl rfl dX12_code_75 ?_
  obtain ⟨hg9, h⟩ := q_guard h
  refine q_iast (q_shQ18 (w.fx fx8) hq) (q_inb_in hg9) dX12_code_76 ?_
  obtain ⟨S10, e11, h⟩ := q_bindS h
  refine q_st e11 ?_
  have fx12 : q_Fx S S10 := e11 ▸ q_Fx.sI (fx8)
  refine q_aload_n 2 rfl rfl dX12_code_77 ?_
  refine q_getR (q_shQ0 (w.fx fx12) hq) (by decide) (by decide) rfl lfX12_376 dX12_code_78 (r := (q + 16)) (q_wrQ0_22 (w.fx fx12) hq) ?_
  refine q_iload 0 rfl dX12_code_81 ?_
  refine q_iconst (v := (0 : Int32)) (by decide) dX12_code_83 ?_
  obtain ⟨hg13, h⟩ := q_guard h
  refine q_iast (q_shQ16 (w.fx fx12) hq) (q_inb_in hg13) dX12_code_84 ?_
  obtain ⟨S14, e15, h⟩ := q_bindS h
  refine q_st e15 ?_
  have fx16 : q_Fx S S14 := e15 ▸ q_Fx.sI (fx12)
  refine q_aload_n 2 rfl rfl dX12_code_85 ?_
  refine q_getR (q_shQ0 (w.fx fx16) hq) (by decide) (by decide) rfl lfX12_379 dX12_code_86 (r := (q + 17)) (q_wrQ0_23 (w.fx fx16) hq) ?_
  refine q_iload 0 rfl dX12_code_89 ?_
  refine q_iconst (v := (0 : Int32)) (by decide) dX12_code_91 ?_
  obtain ⟨hg17, h⟩ := q_guard h
  refine q_iast (q_shQ17 (w.fx fx16) hq) (q_inb_in hg17) dX12_code_92 ?_
  obtain ⟨S18, e19, h⟩ := q_bindS h
  refine q_st e19 ?_
  have fx20 : q_Fx S S18 := e19 ▸ q_Fx.sI (fx16)
  refine q_aload_n 2 rfl rfl dX12_code_93 ?_
  refine q_dup rfl dX12_code_94 ?_
  refine q_getI (q_shQ0 (w.fx fx20) hq) (by decide) (by decide) rfl lfX12_318 dX12_code_95 ?_
  refine q_iconst (v := (1 : Int32)) (by decide) dX12_code_98 ?_
  refine q_iadd dX12_code_99 ?_
  refine q_putI (q_shQ0 (w.fx fx20) hq) (by decide) (by decide) rfl rfl ⟨rfl, rfl⟩ lfX12_318 dX12_code_100 ?_
  obtain ⟨S21, e22, h⟩ := q_bindS h
  refine q_st e22 ?_
  have fx23 : q_Fx S S21 := e22 ▸ q_Fx.sI (fx20)
  refine q_ldcS (j := 42) (r := 1000084) rfl rfl dX12_code_103 ?_
  refine q_iload 6 rfl dX12_code_105 ?_
  obtain ⟨r24, e25, h⟩ := q_bind h
  obtain ⟨js, own, ix, tx, bs, hj, hr, _⟩ := q_isS_of (fJ0_charAt_str e25)
  refine q_callT (d := 7) (Mc := mJ0_charAt_5068e) (kc := 0) (nc := 0) [.int y5] okJ0_charAt_5068e hj hr rfl lmX12_127 inJ0_charAt_5068e seJ0_charAt_5068e rfl (Nat.le_of_ble_eq_true rfl) (Nat.le_of_ble_eq_true rfl) (Nat.le_refl _) (Nat.le_refl _) dX12_code_107 (q_L.deep (by decide) (kJ0_charAt_5068e (Q := fun r S' => r = some (.int r24) ∧ S' = S21)  e25 ⟨rfl, rfl⟩)) (q_kI ?_)
  by_cases c27 : r24 = (67 : Int32) ∨ r24 = (69 : Int32)
  · rw [if_pos c27] at h
    have K : ∀ (hK : True), q_L g mX12_code 8 0 0 Q 0 0 310 [(6, .int (S.2.1 q 3)), (0, .ref 102), (1, .ref q), (2, .int y2), (3, .int y3), (4, .int y4), (5, .int y5)] [] S21 := by
      intro _
      refine q_aload_n 1 rfl rfl dX12_code_310 ?_
      refine q_aload_n 2 rfl rfl dX12_code_311 ?_
      refine q_iload 0 rfl dX12_code_312 ?_
      refine q_iload 6 rfl dX12_code_314 ?_
      refine q_iload_n 4 rfl rfl dX12_code_316 ?_
      refine q_iconst (v := (1 : Int32)) (by decide) dX12_code_317 ?_
      refine q_iadd dX12_code_318 ?_
      obtain ⟨r28, e29, h⟩ := q_bind h
      refine q_callV (ci := 12) (d := 7) (Mc := mX12_makes) (kc := 0) (nc := 0) [.ref q, .int (S.2.1 q 3), .int y5, .int (y3 + (1 : Int32))] okX12_makes (q_sh102 (w.fx fx23)) (by decide) rfl lmX12_385 inX12_makes seX12_makes rfl (Nat.le_of_ble_eq_true rfl) (Nat.le_of_ble_eq_true rfl) (Nat.le_refl _) (Nat.le_refl _) dX12_code_319 (q_L.deep (by decide) (kX12_makes (Q := fun r S' => r = some (.int (q_b r28.1)) ∧ S' = r28.2) (w.fx fx23) hq e29 ⟨rfl, rfl⟩)) (q_kI ?_)
      have fx30 : q_Fx S r28.2 := q_Fx.tr (fx23) (fxX12_makes e29)
      obtain rfl := Option.some.inj h
      exact q_iret rfl (q_b_nar _) dX12_code_322 hQ
    rcases c27 with c27 | c27
    · exact q_tabIn (M := mX12_code) (pc := 110) (x := r24) 310 (by rw [c27]; decide) (by rw [c27]; decide) (by rw [c27]; rfl) (by decide) dX12_code_110 (K trivial)
    · exact q_tabIn (M := mX12_code) (pc := 110) (x := r24) 310 (by rw [c27]; decide) (by rw [c27]; decide) (by rw [c27]; rfl) (by decide) dX12_code_110 (K trivial)
  rw [if_neg c27] at h
  by_cases c31 : r24 = (70 : Int32)
  · rw [if_pos c31] at h
    refine q_tabIn (M := mX12_code) (pc := 110) (x := r24) 323 (by rw [c31]; decide) (by rw [c31]; decide) (by rw [c31]; rfl) (by decide) dX12_code_110 ?_
    refine q_aload_n 1 rfl rfl dX12_code_323 ?_
    refine q_aload_n 2 rfl rfl dX12_code_324 ?_
    refine q_iload 0 rfl dX12_code_325 ?_
    refine q_iload 6 rfl dX12_code_327 ?_
    refine q_iload_n 4 rfl rfl dX12_code_329 ?_
    refine q_iconst (v := (1 : Int32)) (by decide) dX12_code_330 ?_
    refine q_iadd dX12_code_331 ?_
    obtain ⟨r32, e33, h⟩ := q_bind h
    refine q_callV (ci := 12) (d := 7) (Mc := mX12_reference) (kc := 0) (nc := 0) [.ref q, .int (S.2.1 q 3), .int y5, .int (y3 + (1 : Int32))] okX12_reference (q_sh102 (w.fx fx23)) (by decide) rfl lmX12_388 inX12_reference seX12_reference rfl (Nat.le_of_ble_eq_true rfl) (Nat.le_of_ble_eq_true rfl) (Nat.le_refl _) (Nat.le_refl _) dX12_code_332 (q_L.deep (by decide) (kX12_reference (Q := fun r S' => r = some (.int (q_b r32.1)) ∧ S' = r32.2) (w.fx fx23) hq e33 ⟨rfl, rfl⟩)) (q_kI ?_)
    have fx34 : q_Fx S r32.2 := q_Fx.tr (fx23) (fxX12_reference e33)
    obtain rfl := Option.some.inj h
    exact q_iret rfl (q_b_nar _) dX12_code_335 hQ
  rw [if_neg c31] at h
  by_cases c35 : r24 = (73 : Int32)
  · rw [if_pos c35] at h
    refine q_tabIn (M := mX12_code) (pc := 110) (x := r24) 225 (by rw [c35]; decide) (by rw [c35]; decide) (by rw [c35]; rfl) (by decide) dX12_code_110 ?_
    refine q_aload_n 1 rfl rfl dX12_code_225 ?_
    refine q_aload_n 2 rfl rfl dX12_code_226 ?_
    refine q_iload_n 3 rfl rfl dX12_code_227 ?_
    refine q_iload 0 rfl dX12_code_228 ?_
    refine q_iload_n 4 rfl rfl dX12_code_230 ?_
    refine q_iconst (v := (1 : Int32)) (by decide) dX12_code_231 ?_
    refine q_iadd dX12_code_232 ?_
    obtain ⟨r36, e37, h⟩ := q_bind h
    refine q_callV (ci := 12) (d := 7) (Mc := mX12_localStep) (kc := 0) (nc := 0) [.ref q, .int y2, .int (S.2.1 q 3), .int (y3 + (1 : Int32))] okX12_localStep (q_sh102 (w.fx fx23)) (by decide) rfl lmX12_382 inX12_localStep seX12_localStep rfl (Nat.le_of_ble_eq_true rfl) (Nat.le_of_ble_eq_true rfl) (Nat.le_refl _) (Nat.le_refl _) dX12_code_233 (q_L.deep (by decide) (kX12_localStep (Q := fun r S' => r = some (.int (q_b r36.1)) ∧ S' = r36.2) (w.fx fx23) hq e37 ⟨rfl, rfl⟩)) (q_kI ?_)
    have fx38 : q_Fx S r36.2 := q_Fx.tr (fx23) (fxX12_localStep e37)
    refine q_if_ne 241 (by decide) dX12_code_236 (fun c => ?_) (fun c => ?_)
    · have c := q_b_n.mp c; rw [q_if1 c] at h
      refine q_aload_n 2 rfl rfl dX12_code_241 ?_
      refine q_getR (q_shQ0 (w.fx fx38) hq) (by decide) (by decide) rfl lfX12_379 dX12_code_242 (r := (q + 17)) (q_wrQ0_23 (w.fx fx38) hq) ?_
      refine q_iload 0 rfl dX12_code_245 ?_
      refine q_aload_n 1 rfl rfl dX12_code_247 ?_
      refine q_iload_n 4 rfl rfl dX12_code_248 ?_
      refine q_iconst (v := (2 : Int32)) (by decide) dX12_code_249 ?_
      refine q_iadd dX12_code_250 ?_
      obtain ⟨r39, e40, h⟩ := q_bind h
      refine q_callV (ci := 12) (d := 7) (Mc := mX12_number) (kc := 0) (nc := 0) [.int (y3 + (2 : Int32))] okX12_number (q_sh102 (w.fx fx38)) (by decide) rfl lmX12_146 inX12_number seX12_number rfl (Nat.le_of_ble_eq_true rfl) (Nat.le_of_ble_eq_true rfl) (Nat.le_refl _) (Nat.le_refl _) dX12_code_251 (q_L.deep (by decide) (kX12_number (Q := fun r S' => r = some (.long r39) ∧ S' = r36.2) (w.fx fx38) e40 ⟨rfl, rfl⟩)) (q_kJ ?_)
      refine q_l2i dX12_code_254 ?_
      obtain ⟨hg41, h⟩ := q_guard h
      refine q_iast (q_shQ17 (w.fx fx38) hq) (q_inb_in hg41) dX12_code_255 ?_
      obtain ⟨S42, e43, h⟩ := q_bindS h
      refine q_st e43 ?_
      have fx44 : q_Fx S S42 := e43 ▸ q_Fx.sI (fx38)
      refine q_iconst (v := (1 : Int32)) (by decide) dX12_code_256 ?_
      obtain rfl := Option.some.inj h
      exact q_iret rfl (by decide) dX12_code_257 hQ
    · have c := q_b_0.mp c; rw [q_if0 c] at h
      refine q_iconst (v := (0 : Int32)) (by decide) dX12_code_239 ?_
      obtain rfl := Option.some.inj h
      exact q_iret rfl (by decide) dX12_code_240 hQ
  rw [if_neg c35] at h
  by_cases c45 : r24 = (75 : Int32)
  · rw [if_pos c45] at h
    refine q_tabIn (M := mX12_code) (pc := 110) (x := r24) 213 (by rw [c45]; decide) (by rw [c45]; decide) (by rw [c45]; rfl) (by decide) dX12_code_110 ?_
    refine q_aload_n 1 rfl rfl dX12_code_213 ?_
    refine q_aload_n 2 rfl rfl dX12_code_214 ?_
    refine q_iload_n 3 rfl rfl dX12_code_215 ?_
    refine q_iload 0 rfl dX12_code_216 ?_
    refine q_iload_n 4 rfl rfl dX12_code_218 ?_
    refine q_iconst (v := (1 : Int32)) (by decide) dX12_code_219 ?_
    refine q_iadd dX12_code_220 ?_
    obtain ⟨r46, e47, h⟩ := q_bind h
    refine q_callV (ci := 12) (d := 7) (Mc := mX12_localStep) (kc := 0) (nc := 0) [.ref q, .int y2, .int (S.2.1 q 3), .int (y3 + (1 : Int32))] okX12_localStep (q_sh102 (w.fx fx23)) (by decide) rfl lmX12_382 inX12_localStep seX12_localStep rfl (Nat.le_of_ble_eq_true rfl) (Nat.le_of_ble_eq_true rfl) (Nat.le_refl _) (Nat.le_refl _) dX12_code_221 (q_L.deep (by decide) (kX12_localStep (Q := fun r S' => r = some (.int (q_b r46.1)) ∧ S' = r46.2) (w.fx fx23) hq e47 ⟨rfl, rfl⟩)) (q_kI ?_)
    have fx48 : q_Fx S r46.2 := q_Fx.tr (fx23) (fxX12_localStep e47)
    obtain rfl := Option.some.inj h
    exact q_iret rfl (q_b_nar _) dX12_code_224 hQ
  rw [if_neg c45] at h
  by_cases c49 : r24 = (76 : Int32)
  · rw [if_pos c49] at h
    refine q_tabIn (M := mX12_code) (pc := 110) (x := r24) 258 (by rw [c49]; decide) (by rw [c49]; decide) (by rw [c49]; rfl) (by decide) dX12_code_110 ?_
    refine q_aload_n 2 rfl rfl dX12_code_258 ?_
    refine q_getR (q_shQ0 (w.fx fx23) hq) (by decide) (by decide) rfl lfX12_376 dX12_code_259 (r := (q + 16)) (q_wrQ0_22 (w.fx fx23) hq) ?_
    refine q_iload 0 rfl dX12_code_262 ?_
    refine q_aload_n 1 rfl rfl dX12_code_264 ?_
    refine q_iload_n 4 rfl rfl dX12_code_265 ?_
    refine q_iconst (v := (1 : Int32)) (by decide) dX12_code_266 ?_
    refine q_iadd dX12_code_267 ?_
    obtain ⟨r50, e51, h⟩ := q_bind h
    refine q_callV (ci := 12) (d := 7) (Mc := mX12_labelAt) (kc := 0) (nc := 0) [.int (y3 + (1 : Int32))] okX12_labelAt (q_sh102 (w.fx fx23)) (by decide) rfl lmX12_356 inX12_labelAt seX12_labelAt rfl (Nat.le_of_ble_eq_true rfl) (Nat.le_of_ble_eq_true rfl) (Nat.le_refl _) (Nat.le_refl _) dX12_code_268 (q_L.deep (by decide) (kX12_labelAt (Q := fun r S' => r = some (.int r50) ∧ S' = S21) (w.fx fx23) e51 ⟨rfl, rfl⟩)) (q_kI ?_)
    obtain ⟨hg52, h⟩ := q_guard h
    refine q_iast (q_shQ16 (w.fx fx23) hq) (q_inb_in hg52) dX12_code_271 ?_
    obtain ⟨S53, e54, h⟩ := q_bindS h
    refine q_st e54 ?_
    have fx55 : q_Fx S S53 := e54 ▸ q_Fx.sI (fx23)
    refine q_aload_n 2 rfl rfl dX12_code_272 ?_
    refine q_getR (q_shQ0 (w.fx fx55) hq) (by decide) (by decide) rfl lfX12_376 dX12_code_273 (r := (q + 16)) (q_wrQ0_22 (w.fx fx55) hq) ?_
    refine q_iload 0 rfl dX12_code_276 ?_
    obtain ⟨hg56, h⟩ := q_guard h
    refine q_iald (q_shQ16 (w.fx fx55) hq) (q_inb_in hg56) dX12_code_278 ?_
    refine q_if_lt 294 (by decide) dX12_code_279 (fun c => ?_) (fun c => ?_)
    · rw [if_pos c] at h
      refine q_aload_n 1 rfl rfl dX12_code_294 ?_
      refine q_iload_n 4 rfl rfl dX12_code_295 ?_
      refine q_iconst (v := (1 : Int32)) (by decide) dX12_code_296 ?_
      refine q_iadd dX12_code_297 ?_
      obtain ⟨r57, e58, h⟩ := q_bind h
      refine q_callV (ci := 12) (d := 7) (Mc := mX12_wrong) (kc := 0) (nc := 0) [.int (y3 + (1 : Int32))] okX12_wrong (q_sh102 (w.fx fx55)) (by decide) rfl lmX12_254 inX12_wrong seX12_wrong rfl (Nat.le_of_ble_eq_true rfl) (Nat.le_of_ble_eq_true rfl) (Nat.le_refl _) (Nat.le_refl _) dX12_code_298 (q_L.deep (by decide) (kX12_wrong (Q := fun r S' => r = some (.int (q_b r57.1)) ∧ S' = r57.2) (w.fx fx55) e58 ⟨rfl, rfl⟩)) (q_kI ?_)
      have fx59 : q_Fx S r57.2 := q_Fx.tr (fx55) (fxX12_wrong e58)
      refine q_if_eq 308 (by decide) dX12_code_301 (fun c => ?_) (fun c => ?_)
      · have c := q_b_0.mp c; rw [q_if0 c] at h
        refine q_iconst (v := (0 : Int32)) (by decide) dX12_code_308 ?_
        obtain rfl := Option.some.inj h
        exact q_iret rfl (by decide) dX12_code_309 hQ
      · have c := q_b_n.mp c; rw [q_if1 c] at h
        refine q_iconst (v := (1 : Int32)) (by decide) dX12_code_304 ?_
        refine q_goto 309 (by decide) dX12_code_305 ?_
        obtain rfl := Option.some.inj h
        exact q_iret rfl (by decide) dX12_code_309 hQ
    · rw [if_neg c] at h
      refine q_aload_n 2 rfl rfl dX12_code_282 ?_
      refine q_getR (q_shQ0 (w.fx fx55) hq) (by decide) (by decide) rfl lfX12_376 dX12_code_283 (r := (q + 16)) (q_wrQ0_22 (w.fx fx55) hq) ?_
      refine q_iload 0 rfl dX12_code_286 ?_
      obtain ⟨hg60, h⟩ := q_guard h
      refine q_iald (q_shQ16 (w.fx fx55) hq) (q_inb_in hg60) dX12_code_288 ?_
      refine q_iload 5 rfl dX12_code_289 ?_
      refine q_icmp_lt 304 (by decide) dX12_code_291 (fun c => ?_) (fun c => ?_)
      · rw [if_pos c] at h
        refine q_iconst (v := (1 : Int32)) (by decide) dX12_code_304 ?_
        refine q_goto 309 (by decide) dX12_code_305 ?_
        obtain rfl := Option.some.inj h
        exact q_iret rfl (by decide) dX12_code_309 hQ
      · rw [if_neg c] at h
        refine q_aload_n 1 rfl rfl dX12_code_294 ?_
        refine q_iload_n 4 rfl rfl dX12_code_295 ?_
        refine q_iconst (v := (1 : Int32)) (by decide) dX12_code_296 ?_
        refine q_iadd dX12_code_297 ?_
        obtain ⟨r61, e62, h⟩ := q_bind h
        refine q_callV (ci := 12) (d := 7) (Mc := mX12_wrong) (kc := 0) (nc := 0) [.int (y3 + (1 : Int32))] okX12_wrong (q_sh102 (w.fx fx55)) (by decide) rfl lmX12_254 inX12_wrong seX12_wrong rfl (Nat.le_of_ble_eq_true rfl) (Nat.le_of_ble_eq_true rfl) (Nat.le_refl _) (Nat.le_refl _) dX12_code_298 (q_L.deep (by decide) (kX12_wrong (Q := fun r S' => r = some (.int (q_b r61.1)) ∧ S' = r61.2) (w.fx fx55) e62 ⟨rfl, rfl⟩)) (q_kI ?_)
        have fx63 : q_Fx S r61.2 := q_Fx.tr (fx55) (fxX12_wrong e62)
        refine q_if_eq 308 (by decide) dX12_code_301 (fun c => ?_) (fun c => ?_)
        · have c := q_b_0.mp c; rw [q_if0 c] at h
          refine q_iconst (v := (0 : Int32)) (by decide) dX12_code_308 ?_
          obtain rfl := Option.some.inj h
          exact q_iret rfl (by decide) dX12_code_309 hQ
        · have c := q_b_n.mp c; rw [q_if1 c] at h
          refine q_iconst (v := (1 : Int32)) (by decide) dX12_code_304 ?_
          refine q_goto 309 (by decide) dX12_code_305 ?_
          obtain rfl := Option.some.inj h
          exact q_iret rfl (by decide) dX12_code_309 hQ
  rw [if_neg c49] at h
  by_cases c64 : r24 = (78 : Int32)
  · rw [if_pos c64] at h
    refine q_tabIn (M := mX12_code) (pc := 110) (x := r24) 196 (by rw [c64]; decide) (by rw [c64]; decide) (by rw [c64]; rfl) (by decide) dX12_code_110 ?_
    refine q_aload_n 2 rfl rfl dX12_code_196 ?_
    refine q_getR (q_shQ0 (w.fx fx23) hq) (by decide) (by decide) rfl lfX12_376 dX12_code_197 (r := (q + 16)) (q_wrQ0_22 (w.fx fx23) hq) ?_
    refine q_iload 0 rfl dX12_code_200 ?_
    refine q_aload_n 1 rfl rfl dX12_code_202 ?_
    refine q_iload_n 4 rfl rfl dX12_code_203 ?_
    refine q_iconst (v := (1 : Int32)) (by decide) dX12_code_204 ?_
    refine q_iadd dX12_code_205 ?_
    obtain ⟨r65, e66, h⟩ := q_bind h
    refine q_callV (ci := 12) (d := 7) (Mc := mX12_number) (kc := 0) (nc := 0) [.int (y3 + (1 : Int32))] okX12_number (q_sh102 (w.fx fx23)) (by decide) rfl lmX12_146 inX12_number seX12_number rfl (Nat.le_of_ble_eq_true rfl) (Nat.le_of_ble_eq_true rfl) (Nat.le_refl _) (Nat.le_refl _) dX12_code_206 (q_L.deep (by decide) (kX12_number (Q := fun r S' => r = some (.long r65) ∧ S' = S21) (w.fx fx23) e66 ⟨rfl, rfl⟩)) (q_kJ ?_)
    refine q_l2i dX12_code_209 ?_
    obtain ⟨hg67, h⟩ := q_guard h
    refine q_iast (q_shQ16 (w.fx fx23) hq) (q_inb_in hg67) dX12_code_210 ?_
    obtain ⟨S68, e69, h⟩ := q_bindS h
    refine q_st e69 ?_
    have fx70 : q_Fx S S68 := e69 ▸ q_Fx.sI (fx23)
    refine q_iconst (v := (1 : Int32)) (by decide) dX12_code_211 ?_
    obtain rfl := Option.some.inj h
    exact q_iret rfl (by decide) dX12_code_212 hQ
  rw [if_neg c64] at h
  by_cases c71 : r24 = (84 : Int32)
  · rw [if_pos c71] at h
    refine q_tabIn (M := mX12_code) (pc := 110) (x := r24) 336 (by rw [c71]; decide) (by rw [c71]; decide) (by rw [c71]; rfl) (by decide) dX12_code_110 ?_
    refine q_aload_n 2 rfl rfl dX12_code_336 ?_
    refine q_getR (q_shQ0 (w.fx fx23) hq) (by decide) (by decide) rfl lfX12_376 dX12_code_337 (r := (q + 16)) (q_wrQ0_22 (w.fx fx23) hq) ?_
    refine q_iload 0 rfl dX12_code_340 ?_
    refine q_aload_n 1 rfl rfl dX12_code_342 ?_
    refine q_aload_n 2 rfl rfl dX12_code_343 ?_
    refine q_iload_n 4 rfl rfl dX12_code_344 ?_
    refine q_iconst (v := (1 : Int32)) (by decide) dX12_code_345 ?_
    refine q_iadd dX12_code_346 ?_
    obtain ⟨r72, e73, h⟩ := q_bind h
    refine q_callV (ci := 12) (d := 7) (Mc := mX12_typeOf) (kc := 0) (nc := 0) [.ref q, .int (y3 + (1 : Int32))] okX12_typeOf (q_sh102 (w.fx fx23)) (by decide) rfl lmX12_285 inX12_typeOf seX12_typeOf rfl (Nat.le_of_ble_eq_true rfl) (Nat.le_of_ble_eq_true rfl) (Nat.le_refl _) (Nat.le_refl _) dX12_code_347 (q_L.deep (by decide) (kX12_typeOf (Q := fun r S' => r = some (.int r72) ∧ S' = S21) (w.fx fx23) hq e73 ⟨rfl, rfl⟩)) (q_kI ?_)
    obtain ⟨hg74, h⟩ := q_guard h
    refine q_iast (q_shQ16 (w.fx fx23) hq) (q_inb_in hg74) dX12_code_350 ?_
    obtain ⟨S75, e76, h⟩ := q_bindS h
    refine q_st e76 ?_
    have fx77 : q_Fx S S75 := e76 ▸ q_Fx.sI (fx23)
    refine q_aload_n 2 rfl rfl dX12_code_351 ?_
    refine q_getR (q_shQ0 (w.fx fx77) hq) (by decide) (by decide) rfl lfX12_376 dX12_code_352 (r := (q + 16)) (q_wrQ0_22 (w.fx fx77) hq) ?_
    refine q_iload 0 rfl dX12_code_355 ?_
    obtain ⟨hg78, h⟩ := q_guard h
    refine q_iald (q_shQ16 (w.fx fx77) hq) (q_inb_in hg78) dX12_code_357 ?_
    refine q_if_ge 371 (by decide) dX12_code_358 (fun c => ?_) (fun c => ?_)
    · rw [if_pos c] at h
      refine q_iconst (v := (1 : Int32)) (by decide) dX12_code_371 ?_
      refine q_goto 376 (by decide) dX12_code_372 ?_
      obtain rfl := Option.some.inj h
      exact q_iret rfl (by decide) dX12_code_376 hQ
    · rw [if_neg c] at h
      refine q_aload_n 1 rfl rfl dX12_code_361 ?_
      refine q_iload_n 4 rfl rfl dX12_code_362 ?_
      refine q_iconst (v := (1 : Int32)) (by decide) dX12_code_363 ?_
      refine q_iadd dX12_code_364 ?_
      obtain ⟨r79, e80, h⟩ := q_bind h
      refine q_callV (ci := 12) (d := 7) (Mc := mX12_wrong) (kc := 0) (nc := 0) [.int (y3 + (1 : Int32))] okX12_wrong (q_sh102 (w.fx fx77)) (by decide) rfl lmX12_254 inX12_wrong seX12_wrong rfl (Nat.le_of_ble_eq_true rfl) (Nat.le_of_ble_eq_true rfl) (Nat.le_refl _) (Nat.le_refl _) dX12_code_365 (q_L.deep (by decide) (kX12_wrong (Q := fun r S' => r = some (.int (q_b r79.1)) ∧ S' = r79.2) (w.fx fx77) e80 ⟨rfl, rfl⟩)) (q_kI ?_)
      have fx81 : q_Fx S r79.2 := q_Fx.tr (fx77) (fxX12_wrong e80)
      refine q_if_eq 375 (by decide) dX12_code_368 (fun c => ?_) (fun c => ?_)
      · have c := q_b_0.mp c; rw [q_if0 c] at h
        refine q_iconst (v := (0 : Int32)) (by decide) dX12_code_375 ?_
        obtain rfl := Option.some.inj h
        exact q_iret rfl (by decide) dX12_code_376 hQ
      · have c := q_b_n.mp c; rw [q_if1 c] at h
        refine q_iconst (v := (1 : Int32)) (by decide) dX12_code_371 ?_
        refine q_goto 376 (by decide) dX12_code_372 ?_
        obtain rfl := Option.some.inj h
        exact q_iret rfl (by decide) dX12_code_376 hQ
  rw [if_neg c71] at h
  have n82 : ¬ r24 = (67 : Int32) := (fun q => c27 (Or.inl q))
  have n83 : ¬ r24 = (69 : Int32) := (fun q => c27 (Or.inr (q)))
  have K : ∀ (hK : True), q_L g mX12_code 8 0 0 Q 0 0 377 [(6, .int (S.2.1 q 3)), (0, .ref 102), (1, .ref q), (2, .int y2), (3, .int y3), (4, .int y4), (5, .int y5)] [] S21 := by
    intro _
    refine q_iconst (v := (1 : Int32)) (by decide) dX12_code_377 ?_
    obtain rfl := Option.some.inj h
    exact q_iret rfl (by decide) dX12_code_378 hQ
  by_cases n84 : r24 = (68 : Int32)
  · exact q_tabIn (M := mX12_code) (pc := 110) (x := r24) 377 (by rw [n84]; decide) (by rw [n84]; decide) (by rw [n84]; rfl) (by decide) dX12_code_110 (K trivial)
  by_cases n85 : r24 = (71 : Int32)
  · exact q_tabIn (M := mX12_code) (pc := 110) (x := r24) 377 (by rw [n85]; decide) (by rw [n85]; decide) (by rw [n85]; rfl) (by decide) dX12_code_110 (K trivial)
  by_cases n86 : r24 = (72 : Int32)
  · exact q_tabIn (M := mX12_code) (pc := 110) (x := r24) 377 (by rw [n86]; decide) (by rw [n86]; decide) (by rw [n86]; rfl) (by decide) dX12_code_110 (K trivial)
  by_cases n87 : r24 = (74 : Int32)
  · exact q_tabIn (M := mX12_code) (pc := 110) (x := r24) 377 (by rw [n87]; decide) (by rw [n87]; decide) (by rw [n87]; rfl) (by decide) dX12_code_110 (K trivial)
  by_cases n88 : r24 = (77 : Int32)
  · exact q_tabIn (M := mX12_code) (pc := 110) (x := r24) 377 (by rw [n88]; decide) (by rw [n88]; decide) (by rw [n88]; rfl) (by decide) dX12_code_110 (K trivial)
  by_cases n89 : r24 = (79 : Int32)
  · exact q_tabIn (M := mX12_code) (pc := 110) (x := r24) 377 (by rw [n89]; decide) (by rw [n89]; decide) (by rw [n89]; rfl) (by decide) dX12_code_110 (K trivial)
  by_cases n90 : r24 = (80 : Int32)
  · exact q_tabIn (M := mX12_code) (pc := 110) (x := r24) 377 (by rw [n90]; decide) (by rw [n90]; decide) (by rw [n90]; rfl) (by decide) dX12_code_110 (K trivial)
  by_cases n91 : r24 = (81 : Int32)
  · exact q_tabIn (M := mX12_code) (pc := 110) (x := r24) 377 (by rw [n91]; decide) (by rw [n91]; decide) (by rw [n91]; rfl) (by decide) dX12_code_110 (K trivial)
  by_cases n92 : r24 = (82 : Int32)
  · exact q_tabIn (M := mX12_code) (pc := 110) (x := r24) 377 (by rw [n92]; decide) (by rw [n92]; decide) (by rw [n92]; rfl) (by decide) dX12_code_110 (K trivial)
  by_cases n93 : r24 = (83 : Int32)
  · exact q_tabIn (M := mX12_code) (pc := 110) (x := r24) 377 (by rw [n93]; decide) (by rw [n93]; decide) (by rw [n93]; rfl) (by decide) dX12_code_110 (K trivial)
  exact q_tabOut (M := mX12_code) (pc := 110) (x := r24) 377 (by have := lv_neT (a := 67) n82 (by decide); have := lv_neT (a := 69) n83 (by decide); have := lv_neT (a := 70) c31 (by decide); have := lv_neT (a := 73) c35 (by decide); have := lv_neT (a := 75) c45 (by decide); have := lv_neT (a := 76) c49 (by decide); have := lv_neT (a := 78) c64 (by decide); have := lv_neT (a := 84) c71 (by decide); have := lv_neT (a := 68) n84 (by decide); have := lv_neT (a := 71) n85 (by decide); have := lv_neT (a := 72) n86 (by decide); have := lv_neT (a := 74) n87 (by decide); have := lv_neT (a := 77) n88 (by decide); have := lv_neT (a := 79) n89 (by decide); have := lv_neT (a := 80) n90 (by decide); have := lv_neT (a := 81) n91 (by decide); have := lv_neT (a := 82) n92 (by decide); have := lv_neT (a := 83) n93 (by decide); omega) (by decide) dX12_code_110 (K trivial)
set_option maxRecDepth 20000 in
theorem kX12_code_31 {S : QS} {g : QG} {Q : Option Value → QS → Prop} {q : Nat} {y2 : Int32} {y3 : Int32} {y4 : Int32} {y5 : Int32} {r : Bool × QS} (w : q_Wire S) (hq : q_qok q) (h : fX12_code_31 S q y2 y3 y4 y5 = some r) (hQ : Q (some (.int (q_b r.1))) r.2) : q_L g mX12_code 8 0 0 Q 0 0 31 [(0, .ref 102), (1, .ref q), (2, .int y2), (3, .int y3), (4, .int y4), (5, .int y5)] [] S := by
  unfold fX12_code_31 at h
  refine q_aload_n 1 rfl rfl dX12_code_31 ?_
  refine q_getI (q_shQ0 w hq) (by decide) (by decide) rfl lfX12_321 dX12_code_32 ?_
  refine q_bipush (v := (48 : Int32)) (by decide) dX12_code_35 ?_
  refine q_icmp_ne 46 (by decide) dX12_code_37 (fun c => ?_) (fun c => ?_)
  · rw [if_neg c] at h
    refine q_sub [0, 1, 2, 3, 4, 5] rfl ?_
    exact kX12_code_46 w hq h hQ
  · rw [if_pos c] at h
    refine q_aload_n 0 rfl rfl dX12_code_40 ?_
    refine q_iload_n 3 rfl rfl dX12_code_41 ?_
    obtain ⟨r94, e95, h⟩ := q_bind h
    refine q_callV (ci := 12) (d := 7) (Mc := mX12_wrong) (kc := 0) (nc := 0) [.int y3] okX12_wrong (q_sh102 w) (by decide) rfl lmX12_254 inX12_wrong seX12_wrong rfl (Nat.le_of_ble_eq_true rfl) (Nat.le_of_ble_eq_true rfl) (Nat.le_refl _) (Nat.le_refl _) dX12_code_42 (q_L.deep (by decide) (kX12_wrong (Q := fun r S' => r = some (.int (q_b r94.1)) ∧ S' = r94.2) w e95 ⟨rfl, rfl⟩)) (q_kI ?_)
    have fx96 : q_Fx S r94.2 := q_Fx.tr (q_Fx.rf S) (fxX12_wrong e95)
    obtain rfl := Option.some.inj h
    exact q_iret rfl (q_b_nar _) dX12_code_45 hQ
set_option maxRecDepth 20000 in
theorem kX12_code {S : QS} {g : QG} {Q : Option Value → QS → Prop} {q : Nat} {x2 : Int32} {x3 : Int32} {x4 : Int32} {r : Bool × QS} (w : q_Wire S) (hq : q_qok q) (h : fX12_code S q x2 x3 x4 = some r) (hQ : Q (some (.int (q_b r.1))) r.2) : q_M g mX12_code 8 0 0 [.ref 102, .ref q, .int x2, .int x3, .int x4] S Q := by
  unfold fX12_code at h
  show q_L g mX12_code 8 0 0 Q 0 0 0 [(0, .ref 102), (1, .ref q), (2, .int x2), (3, .int x3), (4, .int x4)] [] S
  refine q_aload_n 0 rfl rfl dX12_code_0 ?_
  refine q_iload_n 3 rfl rfl dX12_code_1 ?_
  obtain ⟨r97, e98, h⟩ := q_bind h
  refine q_callV (ci := 12) (d := 7) (Mc := mX12_opOf) (kc := 0) (nc := 0) [.int x3] okX12_opOf (q_sh102 w) (by decide) rfl lmX12_221 inX12_opOf seX12_opOf rfl (Nat.le_of_ble_eq_true rfl) (Nat.le_of_ble_eq_true rfl) (Nat.le_refl _) (Nat.le_refl _) dX12_code_2 (q_L.deep (by decide) (kX12_opOf (Q := fun r S' => r = some (.int r97) ∧ S' = S) w e98 ⟨rfl, rfl⟩)) (q_kI ?_)
  refine q_istore [(5, .int r97), (0, .ref 102), (1, .ref q), (2, .int x2), (3, .int x3), (4, .int x4)] (by decide) rfl dX12_code_5 ?_
  refine q_aload_n 2 rfl rfl dX12_code_7 ?_
  refine q_getI (q_shQ0 w hq) (by decide) (by decide) rfl lfX12_318 dX12_code_8 ?_
  refine q_sipush (v := (1024 : Int32)) (by decide) dX12_code_11 ?_
  refine q_icmp_eq 40 (by decide) dX12_code_14 (fun c => ?_) (fun c => ?_)
  · rw [if_pos c] at h
    refine q_aload_n 1 rfl rfl dX12_code_40 ?_
    refine q_iload_n 4 rfl rfl dX12_code_41 ?_
    obtain ⟨r99, e100, h⟩ := q_bind h
    refine q_callV (ci := 12) (d := 7) (Mc := mX12_wrong) (kc := 0) (nc := 0) [.int x3] okX12_wrong (q_sh102 w) (by decide) rfl lmX12_254 inX12_wrong seX12_wrong rfl (Nat.le_of_ble_eq_true rfl) (Nat.le_of_ble_eq_true rfl) (Nat.le_refl _) (Nat.le_refl _) dX12_code_42 (q_L.deep (by decide) (kX12_wrong (Q := fun r S' => r = some (.int (q_b r99.1)) ∧ S' = r99.2) w e100 ⟨rfl, rfl⟩)) (q_kI ?_)
    have fx101 : q_Fx S r99.2 := q_Fx.tr (q_Fx.rf S) (fxX12_wrong e100)
    obtain rfl := Option.some.inj h
    exact q_iret rfl (q_b_nar _) dX12_code_45 hQ
  · rw [if_neg c] at h
    refine q_iload 0 rfl dX12_code_17 ?_
    refine q_bipush (v := (30 : Int32)) (by decide) dX12_code_19 ?_
    refine q_icmp_eq 31 (by decide) dX12_code_21 (fun c => ?_) (fun c => ?_)
    · rw [if_pos c] at h
      refine q_sub [1, 2, 3, 4, 5, 0] rfl ?_
      exact kX12_code_31 w hq h hQ
    · rw [if_neg c] at h
      refine q_iload 0 rfl dX12_code_24 ?_
      refine q_bipush (v := (31 : Int32)) (by decide) dX12_code_26 ?_
      refine q_icmp_ne 46 (by decide) dX12_code_28 (fun c => ?_) (fun c => ?_)
      · rw [if_neg c] at h
        refine q_sub [1, 2, 3, 4, 5, 0] rfl ?_
        exact kX12_code_46 w hq h hQ
      · rw [if_pos c] at h
        refine q_sub [1, 2, 3, 4, 5, 0] rfl ?_
        exact kX12_code_31 w hq h hQ
