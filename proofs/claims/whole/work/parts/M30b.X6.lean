set_option maxRecDepth 20000 in
theorem kX6_pushCell {S : QS} {g : QG} {Q : Option Value → QS → Prop}  {x1 : Int32} {x2 : Int32} {x3 : Bool} {r : QS} (w : q_Wire S) (h : fX6_pushCell S x1 x2 x3 = some r) (hQ : Q none r) : q_M g mX6_pushCell 2 0 0 [.ref 89, .int x1, .int x2, .int (q_b x3)] S Q := by
  unfold fX6_pushCell at h
  show q_L g mX6_pushCell 2 0 0 Q 0 0 0 [(0, .ref 89), (1, .int x1), (2, .int x2), (3, .int (q_b x3))] [] S
  refine q_aload_n 0 rfl rfl dX6_pushCell_0 ?_
  refine q_getR (q_sh89 w) (by decide) (by decide) rfl lfX6_12 dX6_pushCell_1 (r := 90) (q_wr89_2 w) ?_
  refine q_iload_n 1 rfl rfl dX6_pushCell_4 ?_
  refine q_iload_n 2 rfl rfl dX6_pushCell_5 ?_
  obtain ⟨r1, e2, h⟩ := q_bind h
  refine q_callV (ci := 2) (d := 1) (Mc := mX2_cell) (kc := 0) (nc := 0) [.int x1, .int x2] okX2_cell (q_sh90 w) (by decide) rfl lmX6_216 inX2_cell seX2_cell rfl (Nat.le_of_ble_eq_true rfl) (Nat.le_of_ble_eq_true rfl) (Nat.le_refl _) (Nat.le_refl _) dX6_pushCell_6 (q_L.deep (by decide) (kX2_cell (Q := fun r S' => r = some (.int r1) ∧ S' = S) w e2 ⟨rfl, rfl⟩)) (q_kI ?_)
  refine q_istore [(4, .int r1), (0, .ref 89), (1, .int x1), (2, .int x2), (3, .int (q_b x3))] (by decide) rfl dX6_pushCell_9 ?_
  refine q_iload_n 4 rfl rfl dX6_pushCell_11 ?_
  refine q_if_eq 24 (by decide) dX6_pushCell_12 (fun c => ?_) (fun c => ?_)
  · have c := q_b_0.mp c; rw [q_if0 c] at h
    refine q_aload_n 1 rfl rfl dX6_pushCell_24 ?_
    refine q_iload 0 rfl dX6_pushCell_25 ?_
    obtain ⟨r3, e4, h⟩ := q_bind h
    refine q_callV (ci := 6) (d := 1) (Mc := mX6_pushObject) (kc := 0) (nc := 0) [.int r1] okX6_pushObject (q_sh89 w) (by decide) rfl lmX6_169 inX6_pushObject seX6_pushObject rfl (Nat.le_of_ble_eq_true rfl) (Nat.le_of_ble_eq_true rfl) (Nat.le_refl _) (Nat.le_refl _) dX6_pushCell_27 (q_L.deep (by decide) (kX6_pushObject (Q := fun r S' => r = none ∧ S' = r3) w e4 ⟨rfl, rfl⟩)) (q_kV ?_)
    have fx5 : q_Fx S r3 := q_Fx.tr (q_Fx.rf S) (fxX6_pushObject e4)
    obtain rfl := Option.some.inj h
    exact q_vret rfl dX6_pushCell_30 hQ
  · have c := q_b_n.mp c; rw [q_if1 c] at h
    refine q_aload_n 1 rfl rfl dX6_pushCell_15 ?_
    refine q_iload 0 rfl dX6_pushCell_16 ?_
    obtain ⟨r6, e7, h⟩ := q_bind h
    refine q_callV (ci := 6) (d := 1) (Mc := mX6_pushInt) (kc := 0) (nc := 0) [.int r1] okX6_pushInt (q_sh89 w) (by decide) rfl lmX6_166 inX6_pushInt seX6_pushInt rfl (Nat.le_of_ble_eq_true rfl) (Nat.le_of_ble_eq_true rfl) (Nat.le_refl _) (Nat.le_refl _) dX6_pushCell_18 (q_L.deep (by decide) (kX6_pushInt (Q := fun r S' => r = none ∧ S' = r6) w e7 ⟨rfl, rfl⟩)) (q_kV ?_)
    have fx8 : q_Fx S r6 := q_Fx.tr (q_Fx.rf S) (fxX6_pushInt e7)
    refine q_goto 30 (by decide) dX6_pushCell_21 ?_
    obtain rfl := Option.some.inj h
    exact q_vret rfl dX6_pushCell_30 hQ
set_option maxRecDepth 20000 in
theorem kX6_mayHold {S : QS} {g : QG} {Q : Option Value → QS → Prop} {p : Nat} {x1 : Int32} {x2 : Int32} {r : Bool} (w : q_Wire S) (hp : q_pok p) (aR : q_aR S p) (h : fX6_mayHold S p x1 x2 = some r) (hQ : Q (some (.int (q_b r))) S) : q_M g mX6_mayHold 2 0 0 [.ref 89, .int x1, .int x2] S Q := by
  unfold fX6_mayHold at h
  show q_L g mX6_mayHold 2 0 0 Q 0 0 0 [(0, .ref 89), (1, .int x1), (2, .int x2)] [] S
  refine q_aload_n 0 rfl rfl dX6_mayHold_0 ?_
  refine q_getR (q_sh89 w) (by decide) (by decide) rfl lfX6_45 dX6_mayHold_1 (r := p) (aR).1 ?_
  refine q_getRN (q_shP0 w hp) (by decide) (by decide) rfl lfX6_150 dX6_mayHold_4 (r := (p + 1)) (q_wrP0_0 w hp) ?_
  refine q_aload_n 0 rfl rfl dX6_mayHold_7 ?_
  refine q_getR (q_sh89 w) (by decide) (by decide) rfl lfX6_12 dX6_mayHold_8 (r := 90) (q_wr89_2 w) ?_
  refine q_getRN (q_sh90 w) (by decide) (by decide) rfl lfX6_163 dX6_mayHold_11 (r := 91) (q_wr90_0 w) ?_
  refine q_iload_n 1 rfl rfl dX6_mayHold_14 ?_
  obtain ⟨hg1, h⟩ := q_guard h
  refine q_iald (q_sh91 w) (q_inb_in hg1) dX6_mayHold_15 ?_
  obtain ⟨r2, e3, h⟩ := q_bind h
  refine q_callV (ci := 0) (d := 1) (Mc := mX0_elementOf) (kc := 0) (nc := 0) [.int (S.2.1 91 x1.toNatClampNeg)] okX0_elementOf (q_shP1 w hp) (by decide) rfl lmX6_206 inX0_elementOf seX0_elementOf rfl (Nat.le_of_ble_eq_true rfl) (Nat.le_of_ble_eq_true rfl) (Nat.le_refl _) (Nat.le_refl _) dX6_mayHold_16 (q_L.deep (by decide) (kX0_elementOf (Q := fun r S' => r = some (.int r2) ∧ S' = S) w hp e3 ⟨rfl, rfl⟩)) (q_kI ?_)
  refine q_istore_n [(3, .int r2), (0, .ref 89), (1, .int x1), (2, .int x2)] rfl (by decide) rfl dX6_mayHold_19 ?_
  refine q_iload_n 0 rfl rfl dX6_mayHold_20 ?_
  refine q_bipush (v := (66 : Int32)) (by decide) dX6_mayHold_21 ?_
  refine q_icmp_eq 49 (by decide) dX6_mayHold_23 (fun c => ?_) (fun c => ?_)
  · rw [if_pos c] at h
    refine q_iconst (v := (1 : Int32)) (by decide) dX6_mayHold_49 ?_
    refine q_goto 54 (by decide) dX6_mayHold_50 ?_
    obtain rfl := Option.some.inj h
    exact q_iret rfl (by decide) dX6_mayHold_54 hQ
  · rw [if_neg c] at h
    refine q_aload_n 1 rfl rfl dX6_mayHold_26 ?_
    refine q_getR (q_sh89 w) (by decide) (by decide) rfl lfX6_45 dX6_mayHold_27 (r := p) (aR).1 ?_
    refine q_getRN (q_shP0 w hp) (by decide) (by decide) rfl lfX6_150 dX6_mayHold_30 (r := (p + 1)) (q_wrP0_0 w hp) ?_
    refine q_aload_n 1 rfl rfl dX6_mayHold_33 ?_
    refine q_getR (q_sh89 w) (by decide) (by decide) rfl lfX6_12 dX6_mayHold_34 (r := 90) (q_wr89_2 w) ?_
    refine q_getRN (q_sh90 w) (by decide) (by decide) rfl lfX6_163 dX6_mayHold_37 (r := 91) (q_wr90_0 w) ?_
    refine q_iload_n 3 rfl rfl dX6_mayHold_40 ?_
    obtain ⟨hg4, h⟩ := q_guard h
    refine q_iald (q_sh91 w) (q_inb_in hg4) dX6_mayHold_41 ?_
    refine q_iload_n 0 rfl rfl dX6_mayHold_42 ?_
    obtain ⟨r5, e6, h⟩ := q_bind h
    refine q_callV (ci := 0) (d := 1) (Mc := mX0_isBelow) (kc := 0) (nc := 0) [.int (S.2.1 91 x2.toNatClampNeg), .int r2] okX0_isBelow (q_shP1 w hp) (by decide) rfl lmX6_209 inX0_isBelow seX0_isBelow rfl (Nat.le_of_ble_eq_true rfl) (Nat.le_of_ble_eq_true rfl) (Nat.le_refl _) (Nat.le_refl _) dX6_mayHold_43 (q_L.deep (by decide) (kX0_isBelow (Q := fun r S' => r = some (.int (q_b r5)) ∧ S' = S) w hp e6 ⟨rfl, rfl⟩)) (q_kI ?_)
    refine q_if_eq 53 (by decide) dX6_mayHold_46 (fun c => ?_) (fun c => ?_)
    · have c := q_b_0.mp c; rw [q_if0 c] at h
      refine q_iconst (v := (0 : Int32)) (by decide) dX6_mayHold_53 ?_
      obtain rfl := Option.some.inj h
      exact q_iret rfl (by decide) dX6_mayHold_54 hQ
    · have c := q_b_n.mp c; rw [q_if1 c] at h
      refine q_iconst (v := (1 : Int32)) (by decide) dX6_mayHold_49 ?_
      refine q_goto 54 (by decide) dX6_mayHold_50 ?_
      obtain rfl := Option.some.inj h
      exact q_iret rfl (by decide) dX6_mayHold_54 hQ
set_option maxRecDepth 20000 in
theorem kX6_useArray {S : QS} {g : QG} {Q : Option Value → QS → Prop} {p : Nat} {x1 : Int32} {r : QS} (w : q_Wire S) (hp : q_pok p) (aR : q_aR S p) (h : fX6_useArray S p x1 = some r) (hQ : Q none r) : q_M g mX6_useArray 4 0 0 [.ref 89, .int x1] S Q := by
  unfold fX6_useArray at h
  show q_L g mX6_useArray 4 0 0 Q 0 0 0 [(0, .ref 89), (1, .int x1)] [] S
  refine q_aload_n 0 rfl rfl dX6_useArray_0 ?_
  refine q_getR (q_sh89 w) (by decide) (by decide) rfl lfX6_55 dX6_useArray_1 (r := (p + 10)) (aR).2 ?_
  refine q_getRN (q_shP10 w hp) (by decide) (by decide) rfl lfX6_105 dX6_useArray_4 (r := (p + 11)) (q_wrP10_1 w hp) ?_
  refine q_iload_n 1 rfl rfl dX6_useArray_7 ?_
  obtain ⟨hg1, h⟩ := q_guard h
  refine q_iald (q_shP11 w hp) (q_inb_in hg1) dX6_useArray_8 ?_
  refine q_istore_n [(2, .int (S.2.1 (p + 11) x1.toNatClampNeg)), (0, .ref 89), (1, .int x1)] rfl (by decide) rfl dX6_useArray_9 ?_
  refine q_iload_n 0 rfl rfl dX6_useArray_10 ?_
  refine q_bipush (v := (30 : Int32)) (by decide) dX6_useArray_11 ?_
  refine q_icmp_ne 59 (by decide) dX6_useArray_13 (fun c => ?_) (fun c => ?_)
  · rw [if_neg c] at h
    refine q_iload_n 0 rfl rfl dX6_useArray_59 ?_
    refine q_bipush (v := (34 : Int32)) (by decide) dX6_useArray_60 ?_
    obtain ⟨v5, hv, h⟩ := q_bind h
    have fx6 : q_Fx S v5.2 := by
      replace h := hv
      by_cases c : (S.2.1 (p + 11) x1.toNatClampNeg) = (34 : Int32)
      · rw [if_pos c] at h
        obtain ⟨r2, e3, h⟩ := q_bind h
        have fx4 : q_Fx S r2.2 := q_Fx.tr (q_Fx.rf S) (fxX6_pop e3)
        obtain rfl := Option.some.inj h
        exact fx4
      · rw [if_neg c] at h
        obtain rfl := Option.some.inj h
        exact q_Fx.rf _
    have K1 : q_L g mX6_useArray 4 0 0 Q 0 0 73 [(0, .ref 89), (1, .int x1), (2, .int (S.2.1 (p + 11) x1.toNatClampNeg))] [.int v5.1] v5.2 := by
      refine q_istore_n [(3, .int v5.1), (0, .ref 89), (1, .int x1), (2, .int (S.2.1 (p + 11) x1.toNatClampNeg))] rfl (by decide) rfl dX6_useArray_73 ?_
      refine q_iload_n 3 rfl rfl dX6_useArray_74 ?_
      refine q_bipush (v := (32 : Int32)) (by decide) dX6_useArray_75 ?_
      obtain ⟨v10, hv, h⟩ := q_bind h
      have fx11 : q_Fx S v10.2 := by
        replace h := hv
        by_cases c : (S.2.1 (p + 11) x1.toNatClampNeg) = (32 : Int32)
        · rw [if_pos c] at h
          obtain rfl := Option.some.inj h
          exact fx6
        · rw [if_neg c] at h
          obtain ⟨r7, e8, h⟩ := q_bind h
          have fx9 : q_Fx S r7.2 := q_Fx.tr (fx6) (fxX6_pop e8)
          obtain rfl := Option.some.inj h
          exact fx9
      have K2 : q_L g mX6_useArray 4 0 0 Q 0 0 88 [(0, .ref 89), (1, .int x1), (2, .int (S.2.1 (p + 11) x1.toNatClampNeg)), (3, .int v5.1)] [.int v10.1] v10.2 := by
        refine q_istore [(4, .int v10.1), (0, .ref 89), (1, .int x1), (2, .int (S.2.1 (p + 11) x1.toNatClampNeg)), (3, .int v5.1)] (by decide) rfl dX6_useArray_88 ?_
        refine q_iload_n 3 rfl rfl dX6_useArray_90 ?_
        refine q_bipush (v := (31 : Int32)) (by decide) dX6_useArray_91 ?_
        obtain ⟨v15, hv, h⟩ := q_bind h
        have fx16 : q_Fx S v15.2 := by
          replace h := hv
          by_cases c : (S.2.1 (p + 11) x1.toNatClampNeg) = (31 : Int32)
          · rw [if_pos c] at h
            obtain rfl := Option.some.inj h
            exact fx11
          · rw [if_neg c] at h
            obtain ⟨r12, e13, h⟩ := q_bind h
            have fx14 : q_Fx S r12.2 := q_Fx.tr (fx11) (fxX6_pop e13)
            obtain rfl := Option.some.inj h
            exact fx14
        have K3 : q_L g mX6_useArray 4 0 0 Q 0 0 104 [(0, .ref 89), (1, .int x1), (2, .int (S.2.1 (p + 11) x1.toNatClampNeg)), (3, .int v5.1), (4, .int v10.1)] [.int v15.1] v15.2 := by
          refine q_istore [(5, .int v15.1), (0, .ref 89), (1, .int x1), (2, .int (S.2.1 (p + 11) x1.toNatClampNeg)), (3, .int v5.1), (4, .int v10.1)] (by decide) rfl dX6_useArray_104 ?_
          refine q_iload_n 3 rfl rfl dX6_useArray_106 ?_
          refine q_bipush (v := (31 : Int32)) (by decide) dX6_useArray_107 ?_
          refine q_icmp_ne 125 (by decide) dX6_useArray_109 (fun c => ?_) (fun c => ?_)
          · rw [if_neg c] at h
            refine q_iload_n 3 rfl rfl dX6_useArray_125 ?_
            refine q_bipush (v := (31 : Int32)) (by decide) dX6_useArray_126 ?_
            refine q_icmp_ne 158 (by decide) dX6_useArray_128 (fun c => ?_) (fun c => ?_)
            · rw [if_neg c] at h
              refine q_iload 0 rfl dX6_useArray_158 ?_
              refine q_if_ne 171 (by decide) dX6_useArray_160 (fun c => ?_) (fun c => ?_)
              · rw [if_neg c] at h
                refine q_iload_n 3 rfl rfl dX6_useArray_171 ?_
                refine q_bipush (v := (32 : Int32)) (by decide) dX6_useArray_172 ?_
                refine q_icmp_ne 194 (by decide) dX6_useArray_174 (fun c => ?_) (fun c => ?_)
                · rw [if_neg c] at h
                  refine q_aload_n 1 rfl rfl dX6_useArray_194 ?_
                  refine q_getR (q_sh89 (w.fx fx16)) (by decide) (by decide) rfl lfX6_12 dX6_useArray_195 (r := 90) (q_wr89_2 (w.fx fx16)) ?_
                  refine q_iload 0 rfl dX6_useArray_198 ?_
                  refine q_iload 5 rfl dX6_useArray_200 ?_
                  obtain ⟨r17, e18, h⟩ := q_bind h
                  refine q_callV (ci := 2) (d := 3) (Mc := mX2_hasCell) (kc := 0) (nc := 0) [.int v15.1, .int v10.1] okX2_hasCell (q_sh90 (w.fx fx16)) (by decide) rfl lmX6_193 inX2_hasCell seX2_hasCell rfl (Nat.le_of_ble_eq_true rfl) (Nat.le_of_ble_eq_true rfl) (Nat.le_refl _) (Nat.le_refl _) dX6_useArray_202 (q_L.deep (by decide) (kX2_hasCell (Q := fun r S' => r = some (.int (q_b r17)) ∧ S' = v15.2) (w.fx fx16) e18 ⟨rfl, rfl⟩)) (q_kI ?_)
                  refine q_if_ne 216 (by decide) dX6_useArray_205 (fun c => ?_) (fun c => ?_)
                  · have c := q_b_n.mp c; rw [q_if1 c] at h
                    refine q_iload_n 3 rfl rfl dX6_useArray_216 ?_
                    refine q_bipush (v := (33 : Int32)) (by decide) dX6_useArray_217 ?_
                    refine q_icmp_ne 253 (by decide) dX6_useArray_219 (fun c => ?_) (fun c => ?_)
                    · rw [if_neg c] at h
                      refine q_aload_n 1 rfl rfl dX6_useArray_253 ?_
                      refine q_iload 0 rfl dX6_useArray_254 ?_
                      refine q_iload_n 4 rfl rfl dX6_useArray_256 ?_
                      obtain ⟨r19, e20, h⟩ := q_bind h
                      refine q_callV (ci := 6) (d := 3) (Mc := mX6_mayHold) (kc := 0) (nc := 0) [.int v15.1, .int v5.1] okX6_mayHold (q_sh89 (w.fx fx16)) (by decide) rfl lmX6_200 inX6_mayHold seX6_mayHold rfl (Nat.le_of_ble_eq_true rfl) (Nat.le_of_ble_eq_true rfl) (Nat.le_refl _) (Nat.le_refl _) dX6_useArray_257 (q_L.deep (by decide) (kX6_mayHold (Q := fun r S' => r = some (.int (q_b r19)) ∧ S' = v15.2) (w.fx fx16) hp (aR.fx fx16) e20 ⟨rfl, rfl⟩)) (q_kI ?_)
                      refine q_if_eq 278 (by decide) dX6_useArray_260 (fun c => ?_) (fun c => ?_)
                      · have c := q_b_0.mp c; rw [q_if0 c] at h
                        refine q_aload_n 1 rfl rfl dX6_useArray_278 ?_
                        refine q_bipush (v := (7 : Int32)) (by decide) dX6_useArray_279 ?_
                        obtain ⟨r21, e22, h⟩ := q_bind h
                        refine q_callV (ci := 6) (d := 3) (Mc := mX6_raise) (kc := 0) (nc := 0) [.int (7 : Int32)] okX6_raise (q_sh89 (w.fx fx16)) (by decide) rfl lmX6_178 inX6_raise seX6_raise rfl (Nat.le_of_ble_eq_true rfl) (Nat.le_of_ble_eq_true rfl) (Nat.le_refl _) (Nat.le_refl _) dX6_useArray_281 (q_L.deep (by decide) (kX6_raise (Q := fun r S' => r = none ∧ S' = r21) (w.fx fx16) e22 ⟨rfl, rfl⟩)) (q_kV ?_)
                        have fx23 : q_Fx S r21 := q_Fx.tr (fx16) (fxX6_raise e22)
                        obtain rfl := Option.some.inj h
                        exact q_vret rfl dX6_useArray_284 hQ
                      · have c := q_b_n.mp c; rw [q_if1 c] at h
                        refine q_aload_n 1 rfl rfl dX6_useArray_263 ?_
                        refine q_getR (q_sh89 (w.fx fx16)) (by decide) (by decide) rfl lfX6_12 dX6_useArray_264 (r := 90) (q_wr89_2 (w.fx fx16)) ?_
                        refine q_iload 0 rfl dX6_useArray_267 ?_
                        refine q_iload 5 rfl dX6_useArray_269 ?_
                        refine q_iload_n 4 rfl rfl dX6_useArray_271 ?_
                        obtain ⟨r24, e25, h⟩ := q_bind h
                        refine q_callV (ci := 2) (d := 3) (Mc := mX2_setCell) (kc := 0) (nc := 0) [.int v15.1, .int v10.1, .int v5.1] okX2_setCell (q_sh90 (w.fx fx16)) (by decide) rfl lmX6_203 inX2_setCell seX2_setCell rfl (Nat.le_of_ble_eq_true rfl) (Nat.le_of_ble_eq_true rfl) (Nat.le_refl _) (Nat.le_refl _) dX6_useArray_272 (q_L.deep (by decide) (kX2_setCell (Q := fun r S' => r = none ∧ S' = r24) (w.fx fx16) e25 ⟨rfl, rfl⟩)) (q_kV ?_)
                        have fx26 : q_Fx S r24 := q_Fx.tr (fx16) (fxX2_setCell e25)
                        refine q_goto 284 (by decide) dX6_useArray_275 ?_
                        obtain rfl := Option.some.inj h
                        exact q_vret rfl dX6_useArray_284 hQ
                    · rw [if_pos c] at h
                      refine q_aload_n 1 rfl rfl dX6_useArray_222 ?_
                      refine q_iload 0 rfl dX6_useArray_223 ?_
                      refine q_iload 5 rfl dX6_useArray_225 ?_
                      refine q_aload_n 1 rfl rfl dX6_useArray_227 ?_
                      refine q_getR (q_sh89 (w.fx fx16)) (by decide) (by decide) rfl lfX6_12 dX6_useArray_228 (r := 90) (q_wr89_2 (w.fx fx16)) ?_
                      refine q_getRN (q_sh90 (w.fx fx16)) (by decide) (by decide) rfl lfX6_163 dX6_useArray_231 (r := 91) (q_wr90_0 (w.fx fx16)) ?_
                      refine q_iload 0 rfl dX6_useArray_234 ?_
                      obtain ⟨hg27, h⟩ := q_guard h
                      refine q_iald (q_sh91 (w.fx fx16)) (q_inb_in hg27) dX6_useArray_236 ?_
                      refine q_bipush (v := (64 : Int32)) (by decide) dX6_useArray_237 ?_
                      refine q_icmp_ne 246 (by decide) dX6_useArray_239 (fun c => ?_) (fun c => ?_)
                      · rw [if_neg c] at h
                        refine q_iconst (v := (0 : Int32)) (by decide) dX6_useArray_246 ?_
                        obtain ⟨r28, e29, h⟩ := q_bind h
                        refine q_callV (ci := 6) (d := 3) (Mc := mX6_pushCell) (kc := 0) (nc := 0) [.int v15.1, .int v10.1, .int (0 : Int32)] okX6_pushCell (q_sh89 (w.fx fx16)) (by decide) rfl lmX6_196 inX6_pushCell seX6_pushCell rfl (Nat.le_of_ble_eq_true rfl) (Nat.le_of_ble_eq_true rfl) (Nat.le_refl _) (Nat.le_refl _) dX6_useArray_247 (q_L.deep (by decide) (kX6_pushCell (Q := fun r S' => r = none ∧ S' = r28) (w.fx fx16) e29 ⟨rfl, rfl⟩)) (q_kV ?_)
                        have fx30 : q_Fx S r28 := q_Fx.tr (fx16) (fxX6_pushCell e29)
                        refine q_goto 284 (by decide) dX6_useArray_250 ?_
                        obtain rfl := Option.some.inj h
                        exact q_vret rfl dX6_useArray_284 hQ
                      · rw [if_pos c] at h
                        refine q_iconst (v := (1 : Int32)) (by decide) dX6_useArray_242 ?_
                        refine q_goto 247 (by decide) dX6_useArray_243 ?_
                        obtain ⟨r31, e32, h⟩ := q_bind h
                        refine q_callV (ci := 6) (d := 3) (Mc := mX6_pushCell) (kc := 0) (nc := 0) [.int v15.1, .int v10.1, .int (1 : Int32)] okX6_pushCell (q_sh89 (w.fx fx16)) (by decide) rfl lmX6_196 inX6_pushCell seX6_pushCell rfl (Nat.le_of_ble_eq_true rfl) (Nat.le_of_ble_eq_true rfl) (Nat.le_refl _) (Nat.le_refl _) dX6_useArray_247 (q_L.deep (by decide) (kX6_pushCell (Q := fun r S' => r = none ∧ S' = r31) (w.fx fx16) e32 ⟨rfl, rfl⟩)) (q_kV ?_)
                        have fx33 : q_Fx S r31 := q_Fx.tr (fx16) (fxX6_pushCell e32)
                        refine q_goto 284 (by decide) dX6_useArray_250 ?_
                        obtain rfl := Option.some.inj h
                        exact q_vret rfl dX6_useArray_284 hQ
                  · have c := q_b_0.mp c; rw [q_if0 c] at h
                    refine q_aload_n 1 rfl rfl dX6_useArray_208 ?_
                    refine q_iconst (v := (3 : Int32)) (by decide) dX6_useArray_209 ?_
                    obtain ⟨r34, e35, h⟩ := q_bind h
                    refine q_callV (ci := 6) (d := 3) (Mc := mX6_raise) (kc := 0) (nc := 0) [.int (3 : Int32)] okX6_raise (q_sh89 (w.fx fx16)) (by decide) rfl lmX6_178 inX6_raise seX6_raise rfl (Nat.le_of_ble_eq_true rfl) (Nat.le_of_ble_eq_true rfl) (Nat.le_refl _) (Nat.le_refl _) dX6_useArray_210 (q_L.deep (by decide) (kX6_raise (Q := fun r S' => r = none ∧ S' = r34) (w.fx fx16) e35 ⟨rfl, rfl⟩)) (q_kV ?_)
                    have fx36 : q_Fx S r34 := q_Fx.tr (fx16) (fxX6_raise e35)
                    refine q_goto 284 (by decide) dX6_useArray_213 ?_
                    obtain rfl := Option.some.inj h
                    exact q_vret rfl dX6_useArray_284 hQ
                · rw [if_pos c] at h
                  refine q_aload_n 1 rfl rfl dX6_useArray_177 ?_
                  refine q_aload_n 1 rfl rfl dX6_useArray_178 ?_
                  refine q_getR (q_sh89 (w.fx fx16)) (by decide) (by decide) rfl lfX6_12 dX6_useArray_179 (r := 90) (q_wr89_2 (w.fx fx16)) ?_
                  refine q_getRN (q_sh90 (w.fx fx16)) (by decide) (by decide) rfl lfX6_190 dX6_useArray_182 (r := 93) (q_wr90_2 (w.fx fx16)) ?_
                  refine q_iload 0 rfl dX6_useArray_185 ?_
                  obtain ⟨hg37, h⟩ := q_guard h
                  refine q_iald (q_sh93 (w.fx fx16)) (q_inb_in hg37) dX6_useArray_187 ?_
                  obtain ⟨r38, e39, h⟩ := q_bind h
                  refine q_callV (ci := 6) (d := 3) (Mc := mX6_pushInt) (kc := 0) (nc := 0) [.int (v15.2.2.1 93 v15.1.toNatClampNeg)] okX6_pushInt (q_sh89 (w.fx fx16)) (by decide) rfl lmX6_166 inX6_pushInt seX6_pushInt rfl (Nat.le_of_ble_eq_true rfl) (Nat.le_of_ble_eq_true rfl) (Nat.le_refl _) (Nat.le_refl _) dX6_useArray_188 (q_L.deep (by decide) (kX6_pushInt (Q := fun r S' => r = none ∧ S' = r38) (w.fx fx16) e39 ⟨rfl, rfl⟩)) (q_kV ?_)
                  have fx40 : q_Fx S r38 := q_Fx.tr (fx16) (fxX6_pushInt e39)
                  refine q_goto 284 (by decide) dX6_useArray_191 ?_
                  obtain rfl := Option.some.inj h
                  exact q_vret rfl dX6_useArray_284 hQ
              · rw [if_pos c] at h
                refine q_aload_n 1 rfl rfl dX6_useArray_163 ?_
                refine q_iconst (v := (2 : Int32)) (by decide) dX6_useArray_164 ?_
                obtain ⟨r41, e42, h⟩ := q_bind h
                refine q_callV (ci := 6) (d := 3) (Mc := mX6_raise) (kc := 0) (nc := 0) [.int (2 : Int32)] okX6_raise (q_sh89 (w.fx fx16)) (by decide) rfl lmX6_178 inX6_raise seX6_raise rfl (Nat.le_of_ble_eq_true rfl) (Nat.le_of_ble_eq_true rfl) (Nat.le_refl _) (Nat.le_refl _) dX6_useArray_165 (q_L.deep (by decide) (kX6_raise (Q := fun r S' => r = none ∧ S' = r41) (w.fx fx16) e42 ⟨rfl, rfl⟩)) (q_kV ?_)
                have fx43 : q_Fx S r41 := q_Fx.tr (fx16) (fxX6_raise e42)
                refine q_goto 284 (by decide) dX6_useArray_168 ?_
                obtain rfl := Option.some.inj h
                exact q_vret rfl dX6_useArray_284 hQ
            · rw [if_pos c] at h
              refine q_aload_n 1 rfl rfl dX6_useArray_131 ?_
              refine q_aload_n 1 rfl rfl dX6_useArray_132 ?_
              refine q_getR (q_sh89 (w.fx fx16)) (by decide) (by decide) rfl lfX6_55 dX6_useArray_133 (r := (p + 10)) (aR.fx fx16).2 ?_
              refine q_getRN (q_shP10 (w.fx fx16) hp) (by decide) (by decide) rfl lfX6_110 dX6_useArray_136 (r := (p + 12)) (q_wrP10_2 (w.fx fx16) hp) ?_
              refine q_iload_n 2 rfl rfl dX6_useArray_139 ?_
              obtain ⟨hg44, h⟩ := q_guard h
              refine q_iald (q_shP12 (w.fx fx16) hp) (q_inb_in hg44) dX6_useArray_140 ?_
              refine q_iload 5 rfl dX6_useArray_141 ?_
              refine q_aload_n 1 rfl rfl dX6_useArray_143 ?_
              refine q_getR (q_sh89 (w.fx fx16)) (by decide) (by decide) rfl lfX6_55 dX6_useArray_144 (r := (p + 10)) (aR.fx fx16).2 ?_
              refine q_getRN (q_shP10 (w.fx fx16) hp) (by decide) (by decide) rfl lfX6_184 dX6_useArray_147 (r := (p + 16)) (q_wrP10_6 (w.fx fx16) hp) ?_
              refine q_iload_n 2 rfl rfl dX6_useArray_150 ?_
              obtain ⟨hg45, h⟩ := q_guard h
              refine q_iald (q_shP16 (w.fx fx16) hp) (q_inb_in hg45) dX6_useArray_151 ?_
              obtain ⟨r46, e47, h⟩ := q_bind h
              refine q_callV (ci := 6) (d := 3) (Mc := mX6_pushMade) (kc := 0) (nc := 0) [.int (v15.2.2.1 (p + 12) x1.toNatClampNeg), .int v10.1, .int (v15.2.2.1 (p + 16) x1.toNatClampNeg)] okX6_pushMade (q_sh89 (w.fx fx16)) (by decide) rfl lmX6_187 inX6_pushMade seX6_pushMade rfl (Nat.le_of_ble_eq_true rfl) (Nat.le_of_ble_eq_true rfl) (Nat.le_refl _) (Nat.le_refl _) dX6_useArray_152 (q_L.deep (by decide) (kX6_pushMade (Q := fun r S' => r = none ∧ S' = r46) (w.fx fx16) e47 ⟨rfl, rfl⟩)) (q_kV ?_)
              have fx48 : q_Fx S r46 := q_Fx.tr (fx16) (fxX6_pushMade e47)
              refine q_goto 284 (by decide) dX6_useArray_155 ?_
              obtain rfl := Option.some.inj h
              exact q_vret rfl dX6_useArray_284 hQ
          · rw [if_pos c] at h
            refine q_iload 5 rfl dX6_useArray_112 ?_
            refine q_if_ge 125 (by decide) dX6_useArray_114 (fun c => ?_) (fun c => ?_)
            · rw [if_pos c] at h
              refine q_iload_n 3 rfl rfl dX6_useArray_125 ?_
              refine q_bipush (v := (31 : Int32)) (by decide) dX6_useArray_126 ?_
              refine q_icmp_ne 158 (by decide) dX6_useArray_128 (fun c => ?_) (fun c => ?_)
              · rw [if_neg c] at h
                refine q_iload 0 rfl dX6_useArray_158 ?_
                refine q_if_ne 171 (by decide) dX6_useArray_160 (fun c => ?_) (fun c => ?_)
                · rw [if_neg c] at h
                  refine q_iload_n 3 rfl rfl dX6_useArray_171 ?_
                  refine q_bipush (v := (32 : Int32)) (by decide) dX6_useArray_172 ?_
                  refine q_icmp_ne 194 (by decide) dX6_useArray_174 (fun c => ?_) (fun c => ?_)
                  · rw [if_neg c] at h
                    refine q_aload_n 1 rfl rfl dX6_useArray_194 ?_
                    refine q_getR (q_sh89 (w.fx fx16)) (by decide) (by decide) rfl lfX6_12 dX6_useArray_195 (r := 90) (q_wr89_2 (w.fx fx16)) ?_
                    refine q_iload 0 rfl dX6_useArray_198 ?_
                    refine q_iload 5 rfl dX6_useArray_200 ?_
                    obtain ⟨r49, e50, h⟩ := q_bind h
                    refine q_callV (ci := 2) (d := 3) (Mc := mX2_hasCell) (kc := 0) (nc := 0) [.int v15.1, .int v10.1] okX2_hasCell (q_sh90 (w.fx fx16)) (by decide) rfl lmX6_193 inX2_hasCell seX2_hasCell rfl (Nat.le_of_ble_eq_true rfl) (Nat.le_of_ble_eq_true rfl) (Nat.le_refl _) (Nat.le_refl _) dX6_useArray_202 (q_L.deep (by decide) (kX2_hasCell (Q := fun r S' => r = some (.int (q_b r49)) ∧ S' = v15.2) (w.fx fx16) e50 ⟨rfl, rfl⟩)) (q_kI ?_)
                    refine q_if_ne 216 (by decide) dX6_useArray_205 (fun c => ?_) (fun c => ?_)
                    · have c := q_b_n.mp c; rw [q_if1 c] at h
                      refine q_iload_n 3 rfl rfl dX6_useArray_216 ?_
                      refine q_bipush (v := (33 : Int32)) (by decide) dX6_useArray_217 ?_
                      refine q_icmp_ne 253 (by decide) dX6_useArray_219 (fun c => ?_) (fun c => ?_)
                      · rw [if_neg c] at h
                        refine q_aload_n 1 rfl rfl dX6_useArray_253 ?_
                        refine q_iload 0 rfl dX6_useArray_254 ?_
                        refine q_iload_n 4 rfl rfl dX6_useArray_256 ?_
                        obtain ⟨r51, e52, h⟩ := q_bind h
                        refine q_callV (ci := 6) (d := 3) (Mc := mX6_mayHold) (kc := 0) (nc := 0) [.int v15.1, .int v5.1] okX6_mayHold (q_sh89 (w.fx fx16)) (by decide) rfl lmX6_200 inX6_mayHold seX6_mayHold rfl (Nat.le_of_ble_eq_true rfl) (Nat.le_of_ble_eq_true rfl) (Nat.le_refl _) (Nat.le_refl _) dX6_useArray_257 (q_L.deep (by decide) (kX6_mayHold (Q := fun r S' => r = some (.int (q_b r51)) ∧ S' = v15.2) (w.fx fx16) hp (aR.fx fx16) e52 ⟨rfl, rfl⟩)) (q_kI ?_)
                        refine q_if_eq 278 (by decide) dX6_useArray_260 (fun c => ?_) (fun c => ?_)
                        · have c := q_b_0.mp c; rw [q_if0 c] at h
                          refine q_aload_n 1 rfl rfl dX6_useArray_278 ?_
                          refine q_bipush (v := (7 : Int32)) (by decide) dX6_useArray_279 ?_
                          obtain ⟨r53, e54, h⟩ := q_bind h
                          refine q_callV (ci := 6) (d := 3) (Mc := mX6_raise) (kc := 0) (nc := 0) [.int (7 : Int32)] okX6_raise (q_sh89 (w.fx fx16)) (by decide) rfl lmX6_178 inX6_raise seX6_raise rfl (Nat.le_of_ble_eq_true rfl) (Nat.le_of_ble_eq_true rfl) (Nat.le_refl _) (Nat.le_refl _) dX6_useArray_281 (q_L.deep (by decide) (kX6_raise (Q := fun r S' => r = none ∧ S' = r53) (w.fx fx16) e54 ⟨rfl, rfl⟩)) (q_kV ?_)
                          have fx55 : q_Fx S r53 := q_Fx.tr (fx16) (fxX6_raise e54)
                          obtain rfl := Option.some.inj h
                          exact q_vret rfl dX6_useArray_284 hQ
                        · have c := q_b_n.mp c; rw [q_if1 c] at h
                          refine q_aload_n 1 rfl rfl dX6_useArray_263 ?_
                          refine q_getR (q_sh89 (w.fx fx16)) (by decide) (by decide) rfl lfX6_12 dX6_useArray_264 (r := 90) (q_wr89_2 (w.fx fx16)) ?_
                          refine q_iload 0 rfl dX6_useArray_267 ?_
                          refine q_iload 5 rfl dX6_useArray_269 ?_
                          refine q_iload_n 4 rfl rfl dX6_useArray_271 ?_
                          obtain ⟨r56, e57, h⟩ := q_bind h
                          refine q_callV (ci := 2) (d := 3) (Mc := mX2_setCell) (kc := 0) (nc := 0) [.int v15.1, .int v10.1, .int v5.1] okX2_setCell (q_sh90 (w.fx fx16)) (by decide) rfl lmX6_203 inX2_setCell seX2_setCell rfl (Nat.le_of_ble_eq_true rfl) (Nat.le_of_ble_eq_true rfl) (Nat.le_refl _) (Nat.le_refl _) dX6_useArray_272 (q_L.deep (by decide) (kX2_setCell (Q := fun r S' => r = none ∧ S' = r56) (w.fx fx16) e57 ⟨rfl, rfl⟩)) (q_kV ?_)
                          have fx58 : q_Fx S r56 := q_Fx.tr (fx16) (fxX2_setCell e57)
                          refine q_goto 284 (by decide) dX6_useArray_275 ?_
                          obtain rfl := Option.some.inj h
                          exact q_vret rfl dX6_useArray_284 hQ
                      · rw [if_pos c] at h
                        refine q_aload_n 1 rfl rfl dX6_useArray_222 ?_
                        refine q_iload 0 rfl dX6_useArray_223 ?_
                        refine q_iload 5 rfl dX6_useArray_225 ?_
                        refine q_aload_n 1 rfl rfl dX6_useArray_227 ?_
                        refine q_getR (q_sh89 (w.fx fx16)) (by decide) (by decide) rfl lfX6_12 dX6_useArray_228 (r := 90) (q_wr89_2 (w.fx fx16)) ?_
                        refine q_getRN (q_sh90 (w.fx fx16)) (by decide) (by decide) rfl lfX6_163 dX6_useArray_231 (r := 91) (q_wr90_0 (w.fx fx16)) ?_
                        refine q_iload 0 rfl dX6_useArray_234 ?_
                        obtain ⟨hg59, h⟩ := q_guard h
                        refine q_iald (q_sh91 (w.fx fx16)) (q_inb_in hg59) dX6_useArray_236 ?_
                        refine q_bipush (v := (64 : Int32)) (by decide) dX6_useArray_237 ?_
                        refine q_icmp_ne 246 (by decide) dX6_useArray_239 (fun c => ?_) (fun c => ?_)
                        · rw [if_neg c] at h
                          refine q_iconst (v := (0 : Int32)) (by decide) dX6_useArray_246 ?_
                          obtain ⟨r60, e61, h⟩ := q_bind h
                          refine q_callV (ci := 6) (d := 3) (Mc := mX6_pushCell) (kc := 0) (nc := 0) [.int v15.1, .int v10.1, .int (0 : Int32)] okX6_pushCell (q_sh89 (w.fx fx16)) (by decide) rfl lmX6_196 inX6_pushCell seX6_pushCell rfl (Nat.le_of_ble_eq_true rfl) (Nat.le_of_ble_eq_true rfl) (Nat.le_refl _) (Nat.le_refl _) dX6_useArray_247 (q_L.deep (by decide) (kX6_pushCell (Q := fun r S' => r = none ∧ S' = r60) (w.fx fx16) e61 ⟨rfl, rfl⟩)) (q_kV ?_)
                          have fx62 : q_Fx S r60 := q_Fx.tr (fx16) (fxX6_pushCell e61)
                          refine q_goto 284 (by decide) dX6_useArray_250 ?_
                          obtain rfl := Option.some.inj h
                          exact q_vret rfl dX6_useArray_284 hQ
                        · rw [if_pos c] at h
                          refine q_iconst (v := (1 : Int32)) (by decide) dX6_useArray_242 ?_
                          refine q_goto 247 (by decide) dX6_useArray_243 ?_
                          obtain ⟨r63, e64, h⟩ := q_bind h
                          refine q_callV (ci := 6) (d := 3) (Mc := mX6_pushCell) (kc := 0) (nc := 0) [.int v15.1, .int v10.1, .int (1 : Int32)] okX6_pushCell (q_sh89 (w.fx fx16)) (by decide) rfl lmX6_196 inX6_pushCell seX6_pushCell rfl (Nat.le_of_ble_eq_true rfl) (Nat.le_of_ble_eq_true rfl) (Nat.le_refl _) (Nat.le_refl _) dX6_useArray_247 (q_L.deep (by decide) (kX6_pushCell (Q := fun r S' => r = none ∧ S' = r63) (w.fx fx16) e64 ⟨rfl, rfl⟩)) (q_kV ?_)
                          have fx65 : q_Fx S r63 := q_Fx.tr (fx16) (fxX6_pushCell e64)
                          refine q_goto 284 (by decide) dX6_useArray_250 ?_
                          obtain rfl := Option.some.inj h
                          exact q_vret rfl dX6_useArray_284 hQ
                    · have c := q_b_0.mp c; rw [q_if0 c] at h
                      refine q_aload_n 1 rfl rfl dX6_useArray_208 ?_
                      refine q_iconst (v := (3 : Int32)) (by decide) dX6_useArray_209 ?_
                      obtain ⟨r66, e67, h⟩ := q_bind h
                      refine q_callV (ci := 6) (d := 3) (Mc := mX6_raise) (kc := 0) (nc := 0) [.int (3 : Int32)] okX6_raise (q_sh89 (w.fx fx16)) (by decide) rfl lmX6_178 inX6_raise seX6_raise rfl (Nat.le_of_ble_eq_true rfl) (Nat.le_of_ble_eq_true rfl) (Nat.le_refl _) (Nat.le_refl _) dX6_useArray_210 (q_L.deep (by decide) (kX6_raise (Q := fun r S' => r = none ∧ S' = r66) (w.fx fx16) e67 ⟨rfl, rfl⟩)) (q_kV ?_)
                      have fx68 : q_Fx S r66 := q_Fx.tr (fx16) (fxX6_raise e67)
                      refine q_goto 284 (by decide) dX6_useArray_213 ?_
                      obtain rfl := Option.some.inj h
                      exact q_vret rfl dX6_useArray_284 hQ
                  · rw [if_pos c] at h
                    refine q_aload_n 1 rfl rfl dX6_useArray_177 ?_
                    refine q_aload_n 1 rfl rfl dX6_useArray_178 ?_
                    refine q_getR (q_sh89 (w.fx fx16)) (by decide) (by decide) rfl lfX6_12 dX6_useArray_179 (r := 90) (q_wr89_2 (w.fx fx16)) ?_
                    refine q_getRN (q_sh90 (w.fx fx16)) (by decide) (by decide) rfl lfX6_190 dX6_useArray_182 (r := 93) (q_wr90_2 (w.fx fx16)) ?_
                    refine q_iload 0 rfl dX6_useArray_185 ?_
                    obtain ⟨hg69, h⟩ := q_guard h
                    refine q_iald (q_sh93 (w.fx fx16)) (q_inb_in hg69) dX6_useArray_187 ?_
                    obtain ⟨r70, e71, h⟩ := q_bind h
                    refine q_callV (ci := 6) (d := 3) (Mc := mX6_pushInt) (kc := 0) (nc := 0) [.int (v15.2.2.1 93 v15.1.toNatClampNeg)] okX6_pushInt (q_sh89 (w.fx fx16)) (by decide) rfl lmX6_166 inX6_pushInt seX6_pushInt rfl (Nat.le_of_ble_eq_true rfl) (Nat.le_of_ble_eq_true rfl) (Nat.le_refl _) (Nat.le_refl _) dX6_useArray_188 (q_L.deep (by decide) (kX6_pushInt (Q := fun r S' => r = none ∧ S' = r70) (w.fx fx16) e71 ⟨rfl, rfl⟩)) (q_kV ?_)
                    have fx72 : q_Fx S r70 := q_Fx.tr (fx16) (fxX6_pushInt e71)
                    refine q_goto 284 (by decide) dX6_useArray_191 ?_
                    obtain rfl := Option.some.inj h
                    exact q_vret rfl dX6_useArray_284 hQ
                · rw [if_pos c] at h
                  refine q_aload_n 1 rfl rfl dX6_useArray_163 ?_
                  refine q_iconst (v := (2 : Int32)) (by decide) dX6_useArray_164 ?_
                  obtain ⟨r73, e74, h⟩ := q_bind h
                  refine q_callV (ci := 6) (d := 3) (Mc := mX6_raise) (kc := 0) (nc := 0) [.int (2 : Int32)] okX6_raise (q_sh89 (w.fx fx16)) (by decide) rfl lmX6_178 inX6_raise seX6_raise rfl (Nat.le_of_ble_eq_true rfl) (Nat.le_of_ble_eq_true rfl) (Nat.le_refl _) (Nat.le_refl _) dX6_useArray_165 (q_L.deep (by decide) (kX6_raise (Q := fun r S' => r = none ∧ S' = r73) (w.fx fx16) e74 ⟨rfl, rfl⟩)) (q_kV ?_)
                  have fx75 : q_Fx S r73 := q_Fx.tr (fx16) (fxX6_raise e74)
                  refine q_goto 284 (by decide) dX6_useArray_168 ?_
                  obtain rfl := Option.some.inj h
                  exact q_vret rfl dX6_useArray_284 hQ
              · rw [if_pos c] at h
                refine q_aload_n 1 rfl rfl dX6_useArray_131 ?_
                refine q_aload_n 1 rfl rfl dX6_useArray_132 ?_
                refine q_getR (q_sh89 (w.fx fx16)) (by decide) (by decide) rfl lfX6_55 dX6_useArray_133 (r := (p + 10)) (aR.fx fx16).2 ?_
                refine q_getRN (q_shP10 (w.fx fx16) hp) (by decide) (by decide) rfl lfX6_110 dX6_useArray_136 (r := (p + 12)) (q_wrP10_2 (w.fx fx16) hp) ?_
                refine q_iload_n 2 rfl rfl dX6_useArray_139 ?_
                obtain ⟨hg76, h⟩ := q_guard h
                refine q_iald (q_shP12 (w.fx fx16) hp) (q_inb_in hg76) dX6_useArray_140 ?_
                refine q_iload 5 rfl dX6_useArray_141 ?_
                refine q_aload_n 1 rfl rfl dX6_useArray_143 ?_
                refine q_getR (q_sh89 (w.fx fx16)) (by decide) (by decide) rfl lfX6_55 dX6_useArray_144 (r := (p + 10)) (aR.fx fx16).2 ?_
                refine q_getRN (q_shP10 (w.fx fx16) hp) (by decide) (by decide) rfl lfX6_184 dX6_useArray_147 (r := (p + 16)) (q_wrP10_6 (w.fx fx16) hp) ?_
                refine q_iload_n 2 rfl rfl dX6_useArray_150 ?_
                obtain ⟨hg77, h⟩ := q_guard h
                refine q_iald (q_shP16 (w.fx fx16) hp) (q_inb_in hg77) dX6_useArray_151 ?_
                obtain ⟨r78, e79, h⟩ := q_bind h
                refine q_callV (ci := 6) (d := 3) (Mc := mX6_pushMade) (kc := 0) (nc := 0) [.int (v15.2.2.1 (p + 12) x1.toNatClampNeg), .int v10.1, .int (v15.2.2.1 (p + 16) x1.toNatClampNeg)] okX6_pushMade (q_sh89 (w.fx fx16)) (by decide) rfl lmX6_187 inX6_pushMade seX6_pushMade rfl (Nat.le_of_ble_eq_true rfl) (Nat.le_of_ble_eq_true rfl) (Nat.le_refl _) (Nat.le_refl _) dX6_useArray_152 (q_L.deep (by decide) (kX6_pushMade (Q := fun r S' => r = none ∧ S' = r78) (w.fx fx16) e79 ⟨rfl, rfl⟩)) (q_kV ?_)
                have fx80 : q_Fx S r78 := q_Fx.tr (fx16) (fxX6_pushMade e79)
                refine q_goto 284 (by decide) dX6_useArray_155 ?_
                obtain rfl := Option.some.inj h
                exact q_vret rfl dX6_useArray_284 hQ
            · rw [if_neg c] at h
              refine q_aload_n 1 rfl rfl dX6_useArray_117 ?_
              refine q_iconst (v := (4 : Int32)) (by decide) dX6_useArray_118 ?_
              obtain ⟨r81, e82, h⟩ := q_bind h
              refine q_callV (ci := 6) (d := 3) (Mc := mX6_raise) (kc := 0) (nc := 0) [.int (4 : Int32)] okX6_raise (q_sh89 (w.fx fx16)) (by decide) rfl lmX6_178 inX6_raise seX6_raise rfl (Nat.le_of_ble_eq_true rfl) (Nat.le_of_ble_eq_true rfl) (Nat.le_refl _) (Nat.le_refl _) dX6_useArray_119 (q_L.deep (by decide) (kX6_raise (Q := fun r S' => r = none ∧ S' = r81) (w.fx fx16) e82 ⟨rfl, rfl⟩)) (q_kV ?_)
              have fx83 : q_Fx S r81 := q_Fx.tr (fx16) (fxX6_raise e82)
              refine q_goto 284 (by decide) dX6_useArray_122 ?_
              obtain rfl := Option.some.inj h
              exact q_vret rfl dX6_useArray_284 hQ
        replace h := hv
        refine q_icmp_ne 100 (by decide) dX6_useArray_93 (fun c => ?_) (fun c => ?_)
        · rw [if_neg c] at h
          refine q_aload_n 1 rfl rfl dX6_useArray_100 ?_
          obtain ⟨r12, e13, h⟩ := q_bind h
          refine q_callV (ci := 6) (d := 3) (Mc := mX6_pop) (kc := 0) (nc := 0) [] okX6_pop (q_sh89 (w.fx fx11)) (by decide) rfl lmX6_172 inX6_pop seX6_pop rfl (Nat.le_of_ble_eq_true rfl) (Nat.le_of_ble_eq_true rfl) (Nat.le_refl _) (Nat.le_refl _) dX6_useArray_101 (q_L.deep (by decide) (kX6_pop (Q := fun r S' => r = some (.int r12.1) ∧ S' = r12.2) (w.fx fx11) e13 ⟨rfl, rfl⟩)) (q_kI ?_)
          have fx14 : q_Fx S r12.2 := q_Fx.tr (fx11) (fxX6_pop e13)
          obtain rfl := Option.some.inj h
          refine q_sub [1, 2, 3, 4, 0] rfl ?_
          exact K3
        · rw [if_pos c] at h
          refine q_iconst (v := (0 : Int32)) (by decide) dX6_useArray_96 ?_
          refine q_goto 104 (by decide) dX6_useArray_97 ?_
          obtain rfl := Option.some.inj h
          refine q_sub [1, 2, 3, 4, 0] rfl ?_
          exact K3
      replace h := hv
      refine q_icmp_ne 84 (by decide) dX6_useArray_77 (fun c => ?_) (fun c => ?_)
      · rw [if_neg c] at h
        refine q_aload_n 1 rfl rfl dX6_useArray_84 ?_
        obtain ⟨r7, e8, h⟩ := q_bind h
        refine q_callV (ci := 6) (d := 3) (Mc := mX6_pop) (kc := 0) (nc := 0) [] okX6_pop (q_sh89 (w.fx fx6)) (by decide) rfl lmX6_172 inX6_pop seX6_pop rfl (Nat.le_of_ble_eq_true rfl) (Nat.le_of_ble_eq_true rfl) (Nat.le_refl _) (Nat.le_refl _) dX6_useArray_85 (q_L.deep (by decide) (kX6_pop (Q := fun r S' => r = some (.int r7.1) ∧ S' = r7.2) (w.fx fx6) e8 ⟨rfl, rfl⟩)) (q_kI ?_)
        have fx9 : q_Fx S r7.2 := q_Fx.tr (fx6) (fxX6_pop e8)
        obtain rfl := Option.some.inj h
        refine q_sub [1, 2, 3, 0] rfl ?_
        exact K2
      · rw [if_pos c] at h
        refine q_iconst (v := (0 : Int32)) (by decide) dX6_useArray_80 ?_
        refine q_goto 88 (by decide) dX6_useArray_81 ?_
        obtain rfl := Option.some.inj h
        refine q_sub [1, 2, 3, 0] rfl ?_
        exact K2
    replace h := hv
    refine q_icmp_ne 72 (by decide) dX6_useArray_62 (fun c => ?_) (fun c => ?_)
    · rw [if_neg c] at h
      refine q_iconst (v := (0 : Int32)) (by decide) dX6_useArray_72 ?_
      obtain rfl := Option.some.inj h
      refine q_sub [1, 2, 0] rfl ?_
      exact K1
    · rw [if_pos c] at h
      refine q_aload_n 1 rfl rfl dX6_useArray_65 ?_
      obtain ⟨r2, e3, h⟩ := q_bind h
      refine q_callV (ci := 6) (d := 3) (Mc := mX6_pop) (kc := 0) (nc := 0) [] okX6_pop (q_sh89 w) (by decide) rfl lmX6_172 inX6_pop seX6_pop rfl (Nat.le_of_ble_eq_true rfl) (Nat.le_of_ble_eq_true rfl) (Nat.le_refl _) (Nat.le_refl _) dX6_useArray_66 (q_L.deep (by decide) (kX6_pop (Q := fun r S' => r = some (.int r2.1) ∧ S' = r2.2) w e3 ⟨rfl, rfl⟩)) (q_kI ?_)
      have fx4 : q_Fx S r2.2 := q_Fx.tr (q_Fx.rf S) (fxX6_pop e3)
      refine q_goto 73 (by decide) dX6_useArray_69 ?_
      obtain rfl := Option.some.inj h
      refine q_sub [1, 2, 0] rfl ?_
      exact K1
  · rw [if_pos c] at h
    refine q_aload_n 1 rfl rfl dX6_useArray_16 ?_
    refine q_aload_n 1 rfl rfl dX6_useArray_17 ?_
    refine q_getR (q_sh89 w) (by decide) (by decide) rfl lfX6_55 dX6_useArray_18 (r := (p + 10)) (aR).2 ?_
    refine q_getRN (q_shP10 w hp) (by decide) (by decide) rfl lfX6_110 dX6_useArray_21 (r := (p + 12)) (q_wrP10_2 w hp) ?_
    refine q_iload_n 2 rfl rfl dX6_useArray_24 ?_
    obtain ⟨hg84, h⟩ := q_guard h
    refine q_iald (q_shP12 w hp) (q_inb_in hg84) dX6_useArray_25 ?_
    refine q_aload_n 1 rfl rfl dX6_useArray_26 ?_
    refine q_getR (q_sh89 w) (by decide) (by decide) rfl lfX6_45 dX6_useArray_27 (r := p) (aR).1 ?_
    refine q_getRN (q_shP0 w hp) (by decide) (by decide) rfl lfX6_150 dX6_useArray_30 (r := (p + 1)) (q_wrP0_0 w hp) ?_
    refine q_getRN (q_shP1 w hp) (by decide) (by decide) rfl lfX6_181 dX6_useArray_33 (r := (p + 5)) (q_wrP1_4 w hp) ?_
    refine q_aload_n 1 rfl rfl dX6_useArray_36 ?_
    refine q_getR (q_sh89 w) (by decide) (by decide) rfl lfX6_55 dX6_useArray_37 (r := (p + 10)) (aR).2 ?_
    refine q_getRN (q_shP10 w hp) (by decide) (by decide) rfl lfX6_110 dX6_useArray_40 (r := (p + 12)) (q_wrP10_2 w hp) ?_
    refine q_iload_n 2 rfl rfl dX6_useArray_43 ?_
    obtain ⟨hg85, h⟩ := q_guard h
    refine q_iald (q_shP12 w hp) (q_inb_in hg85) dX6_useArray_44 ?_
    obtain ⟨hg86, h⟩ := q_guard h
    refine q_iald (q_shP5 w hp) (q_inb_in hg86) dX6_useArray_45 ?_
    refine q_aload_n 1 rfl rfl dX6_useArray_46 ?_
    refine q_getR (q_sh89 w) (by decide) (by decide) rfl lfX6_55 dX6_useArray_47 (r := (p + 10)) (aR).2 ?_
    refine q_getRN (q_shP10 w hp) (by decide) (by decide) rfl lfX6_184 dX6_useArray_50 (r := (p + 16)) (q_wrP10_6 w hp) ?_
    refine q_iload_n 2 rfl rfl dX6_useArray_53 ?_
    obtain ⟨hg87, h⟩ := q_guard h
    refine q_iald (q_shP16 w hp) (q_inb_in hg87) dX6_useArray_54 ?_
    obtain ⟨r88, e89, h⟩ := q_bind h
    refine q_callV (ci := 6) (d := 3) (Mc := mX6_pushMade) (kc := 0) (nc := 0) [.int (S.2.1 (p + 12) x1.toNatClampNeg), .int (S.2.1 (p + 5) (S.2.1 (p + 12) x1.toNatClampNeg).toNatClampNeg), .int (S.2.1 (p + 16) x1.toNatClampNeg)] okX6_pushMade (q_sh89 w) (by decide) rfl lmX6_187 inX6_pushMade seX6_pushMade rfl (Nat.le_of_ble_eq_true rfl) (Nat.le_of_ble_eq_true rfl) (Nat.le_refl _) (Nat.le_refl _) dX6_useArray_55 (q_L.deep (by decide) (kX6_pushMade (Q := fun r S' => r = none ∧ S' = r88) w e89 ⟨rfl, rfl⟩)) (q_kV ?_)
    have fx90 : q_Fx S r88 := q_Fx.tr (q_Fx.rf S) (fxX6_pushMade e89)
    obtain rfl := Option.some.inj h
    exact q_vret rfl dX6_useArray_58 hQ
set_option maxRecDepth 20000 in
theorem kX6_useObject {S : QS} {g : QG} {Q : Option Value → QS → Prop} {p : Nat} {x1 : Int32} {r : QS} (w : q_Wire S) (hp : q_pok p) (aR : q_aR S p) (h : fX6_useObject S p x1 = some r) (hQ : Q none r) : q_M g mX6_useObject 4 0 0 [.ref 89, .int x1] S Q := by
  unfold fX6_useObject at h
  show q_L g mX6_useObject 4 0 0 Q 0 0 0 [(0, .ref 89), (1, .int x1)] [] S
  refine q_aload_n 0 rfl rfl dX6_useObject_0 ?_
  refine q_getR (q_sh89 w) (by decide) (by decide) rfl lfX6_55 dX6_useObject_1 (r := (p + 10)) (aR).2 ?_
  refine q_getRN (q_shP10 w hp) (by decide) (by decide) rfl lfX6_105 dX6_useObject_4 (r := (p + 11)) (q_wrP10_1 w hp) ?_
  refine q_iload_n 1 rfl rfl dX6_useObject_7 ?_
  obtain ⟨hg1, h⟩ := q_guard h
  refine q_iald (q_shP11 w hp) (q_inb_in hg1) dX6_useObject_8 ?_
  refine q_istore_n [(2, .int (S.2.1 (p + 11) x1.toNatClampNeg)), (0, .ref 89), (1, .int x1)] rfl (by decide) rfl dX6_useObject_9 ?_
  refine q_aload_n 1 rfl rfl dX6_useObject_10 ?_
  refine q_getR (q_sh89 w) (by decide) (by decide) rfl lfX6_55 dX6_useObject_11 (r := (p + 10)) (aR).2 ?_
  refine q_getRN (q_shP10 w hp) (by decide) (by decide) rfl lfX6_110 dX6_useObject_14 (r := (p + 12)) (q_wrP10_2 w hp) ?_
  refine q_iload_n 2 rfl rfl dX6_useObject_17 ?_
  obtain ⟨hg2, h⟩ := q_guard h
  refine q_iald (q_shP12 w hp) (q_inb_in hg2) dX6_useObject_18 ?_
  refine q_istore_n [(3, .int (S.2.1 (p + 12) x1.toNatClampNeg)), (2, .int (S.2.1 (p + 11) x1.toNatClampNeg)), (0, .ref 89), (1, .int x1)] rfl (by decide) rfl dX6_useObject_19 ?_
  refine q_aload_n 2 rfl rfl dX6_useObject_20 ?_
  refine q_getR (q_sh89 w) (by decide) (by decide) rfl lfX6_45 dX6_useObject_21 (r := p) (aR).1 ?_
  refine q_getRN (q_shP0 w hp) (by decide) (by decide) rfl lfX6_150 dX6_useObject_24 (r := (p + 1)) (q_wrP0_0 w hp) ?_
  refine q_astore [(4, .ref (p + 1)), (3, .int (S.2.1 (p + 12) x1.toNatClampNeg)), (2, .int (S.2.1 (p + 11) x1.toNatClampNeg)), (0, .ref 89), (1, .int x1)] (by decide) rfl dX6_useObject_27 ?_
  refine q_iload_n 2 rfl rfl dX6_useObject_29 ?_
  refine q_bipush (v := (36 : Int32)) (by decide) dX6_useObject_30 ?_
  obtain ⟨v6, hv, h⟩ := q_bind h
  have fx7 : q_Fx S v6.2 := by
    replace h := hv
    by_cases c : (S.2.1 (p + 11) x1.toNatClampNeg) = (36 : Int32)
    · rw [if_pos c] at h
      obtain ⟨r3, e4, h⟩ := q_bind h
      have fx5 : q_Fx S r3.2 := q_Fx.tr (q_Fx.rf S) (fxX6_pop e4)
      obtain rfl := Option.some.inj h
      exact fx5
    · rw [if_neg c] at h
      obtain rfl := Option.some.inj h
      exact q_Fx.rf _
  have K1 : q_L g mX6_useObject 4 0 0 Q 0 0 43 [(0, .ref 89), (2, .int (S.2.1 (p + 11) x1.toNatClampNeg)), (3, .int (S.2.1 (p + 12) x1.toNatClampNeg)), (4, .ref (p + 1))] [.int v6.1] v6.2 := by
    refine q_istore [(5, .int v6.1), (0, .ref 89), (2, .int (S.2.1 (p + 11) x1.toNatClampNeg)), (3, .int (S.2.1 (p + 12) x1.toNatClampNeg)), (4, .ref (p + 1))] (by decide) rfl dX6_useObject_43 ?_
    refine q_aload_n 1 rfl rfl dX6_useObject_45 ?_
    obtain ⟨r8, e9, h⟩ := q_bind h
    refine q_callV (ci := 6) (d := 3) (Mc := mX6_pop) (kc := 0) (nc := 0) [] okX6_pop (q_sh89 (w.fx fx7)) (by decide) rfl lmX6_172 inX6_pop seX6_pop rfl (Nat.le_of_ble_eq_true rfl) (Nat.le_of_ble_eq_true rfl) (Nat.le_refl _) (Nat.le_refl _) dX6_useObject_46 (q_L.deep (by decide) (kX6_pop (Q := fun r S' => r = some (.int r8.1) ∧ S' = r8.2) (w.fx fx7) e9 ⟨rfl, rfl⟩)) (q_kI ?_)
    have fx10 : q_Fx S r8.2 := q_Fx.tr (fx7) (fxX6_pop e9)
    refine q_istore [(6, .int r8.1), (5, .int v6.1), (0, .ref 89), (2, .int (S.2.1 (p + 11) x1.toNatClampNeg)), (3, .int (S.2.1 (p + 12) x1.toNatClampNeg)), (4, .ref (p + 1))] (by decide) rfl dX6_useObject_49 ?_
    refine q_iload 0 rfl dX6_useObject_51 ?_
    obtain ⟨v14, hv, h⟩ := q_bind h
    have K2 : q_L g mX6_useObject 4 0 0 Q 0 0 80 [(0, .ref 89), (2, .int (S.2.1 (p + 11) x1.toNatClampNeg)), (3, .int (S.2.1 (p + 12) x1.toNatClampNeg)), (4, .ref (p + 1)), (5, .int v6.1), (6, .int r8.1)] [.int (q_b v14)] r8.2 := by
      refine q_istore [(7, .int (q_b v14)), (0, .ref 89), (2, .int (S.2.1 (p + 11) x1.toNatClampNeg)), (3, .int (S.2.1 (p + 12) x1.toNatClampNeg)), (4, .ref (p + 1)), (5, .int v6.1), (6, .int r8.1)] (by decide) rfl dX6_useObject_80 ?_
      refine q_iload_n 2 rfl rfl dX6_useObject_82 ?_
      refine q_bipush (v := (38 : Int32)) (by decide) dX6_useObject_83 ?_
      refine q_icmp_ne 105 (by decide) dX6_useObject_85 (fun c => ?_) (fun c => ?_)
      · rw [if_neg c] at h
        refine q_iload_n 2 rfl rfl dX6_useObject_105 ?_
        refine q_bipush (v := (37 : Int32)) (by decide) dX6_useObject_106 ?_
        refine q_icmp_ne 130 (by decide) dX6_useObject_108 (fun c => ?_) (fun c => ?_)
        · rw [if_neg c] at h
          refine q_iload_n 2 rfl rfl dX6_useObject_130 ?_
          refine q_bipush (v := (37 : Int32)) (by decide) dX6_useObject_131 ?_
          refine q_icmp_ne 145 (by decide) dX6_useObject_133 (fun c => ?_) (fun c => ?_)
          · rw [if_neg c] at h
            refine q_iload 6 rfl dX6_useObject_145 ?_
            refine q_if_ne 158 (by decide) dX6_useObject_147 (fun c => ?_) (fun c => ?_)
            · rw [if_neg c] at h
              refine q_iload_n 2 rfl rfl dX6_useObject_158 ?_
              refine q_bipush (v := (36 : Int32)) (by decide) dX6_useObject_159 ?_
              refine q_icmp_ne 185 (by decide) dX6_useObject_161 (fun c => ?_) (fun c => ?_)
              · rw [if_neg c] at h
                refine q_aload_n 1 rfl rfl dX6_useObject_185 ?_
                refine q_iload 6 rfl dX6_useObject_186 ?_
                refine q_aload 4 rfl dX6_useObject_188 ?_
                refine q_getRN (q_shP1 (w.fx fx10) hp) (by decide) (by decide) rfl lfX6_220 dX6_useObject_190 (r := (p + 9)) (q_wrP1_9 (w.fx fx10) hp) ?_
                refine q_iload_n 3 rfl rfl dX6_useObject_193 ?_
                obtain ⟨hg15, h⟩ := q_guard h
                refine q_iald (q_shP9 (w.fx fx10) hp) (q_inb_in hg15) dX6_useObject_194 ?_
                refine q_aload 4 rfl dX6_useObject_195 ?_
                refine q_getRN (q_shP1 (w.fx fx10) hp) (by decide) (by decide) rfl lfX6_223 dX6_useObject_197 (r := (p + 8)) (q_wrP1_8 (w.fx fx10) hp) ?_
                refine q_iload_n 3 rfl rfl dX6_useObject_200 ?_
                obtain ⟨hg16, h⟩ := q_guard h
                refine q_iald (q_shP8 (w.fx fx10) hp) (q_inb_in hg16) dX6_useObject_201 ?_
                refine q_bipush (v := (66 : Int32)) (by decide) dX6_useObject_202 ?_
                refine q_icmp_ne 211 (by decide) dX6_useObject_204 (fun c => ?_) (fun c => ?_)
                · rw [if_neg c] at h
                  refine q_iconst (v := (0 : Int32)) (by decide) dX6_useObject_211 ?_
                  obtain ⟨r17, e18, h⟩ := q_bind h
                  refine q_callV (ci := 6) (d := 3) (Mc := mX6_pushCell) (kc := 0) (nc := 0) [.int r8.1, .int (r8.2.2.1 (p + 9) (S.2.1 (p + 12) x1.toNatClampNeg).toNatClampNeg), .int (0 : Int32)] okX6_pushCell (q_sh89 (w.fx fx10)) (by decide) rfl lmX6_196 inX6_pushCell seX6_pushCell rfl (Nat.le_of_ble_eq_true rfl) (Nat.le_of_ble_eq_true rfl) (Nat.le_refl _) (Nat.le_refl _) dX6_useObject_212 (q_L.deep (by decide) (kX6_pushCell (Q := fun r S' => r = none ∧ S' = r17) (w.fx fx10) e18 ⟨rfl, rfl⟩)) (q_kV ?_)
                  have fx19 : q_Fx S r17 := q_Fx.tr (fx10) (fxX6_pushCell e18)
                  obtain rfl := Option.some.inj h
                  exact q_vret rfl dX6_useObject_215 hQ
                · rw [if_pos c] at h
                  refine q_iconst (v := (1 : Int32)) (by decide) dX6_useObject_207 ?_
                  refine q_goto 212 (by decide) dX6_useObject_208 ?_
                  obtain ⟨r20, e21, h⟩ := q_bind h
                  refine q_callV (ci := 6) (d := 3) (Mc := mX6_pushCell) (kc := 0) (nc := 0) [.int r8.1, .int (r8.2.2.1 (p + 9) (S.2.1 (p + 12) x1.toNatClampNeg).toNatClampNeg), .int (1 : Int32)] okX6_pushCell (q_sh89 (w.fx fx10)) (by decide) rfl lmX6_196 inX6_pushCell seX6_pushCell rfl (Nat.le_of_ble_eq_true rfl) (Nat.le_of_ble_eq_true rfl) (Nat.le_refl _) (Nat.le_refl _) dX6_useObject_212 (q_L.deep (by decide) (kX6_pushCell (Q := fun r S' => r = none ∧ S' = r20) (w.fx fx10) e21 ⟨rfl, rfl⟩)) (q_kV ?_)
                  have fx22 : q_Fx S r20 := q_Fx.tr (fx10) (fxX6_pushCell e21)
                  obtain rfl := Option.some.inj h
                  exact q_vret rfl dX6_useObject_215 hQ
              · rw [if_pos c] at h
                refine q_aload_n 1 rfl rfl dX6_useObject_164 ?_
                refine q_getR (q_sh89 (w.fx fx10)) (by decide) (by decide) rfl lfX6_12 dX6_useObject_165 (r := 90) (q_wr89_2 (w.fx fx10)) ?_
                refine q_iload 6 rfl dX6_useObject_168 ?_
                refine q_aload 4 rfl dX6_useObject_170 ?_
                refine q_getRN (q_shP1 (w.fx fx10) hp) (by decide) (by decide) rfl lfX6_220 dX6_useObject_172 (r := (p + 9)) (q_wrP1_9 (w.fx fx10) hp) ?_
                refine q_iload_n 3 rfl rfl dX6_useObject_175 ?_
                obtain ⟨hg23, h⟩ := q_guard h
                refine q_iald (q_shP9 (w.fx fx10) hp) (q_inb_in hg23) dX6_useObject_176 ?_
                refine q_iload 5 rfl dX6_useObject_177 ?_
                obtain ⟨r24, e25, h⟩ := q_bind h
                refine q_callV (ci := 2) (d := 3) (Mc := mX2_setCell) (kc := 0) (nc := 0) [.int r8.1, .int (r8.2.2.1 (p + 9) (S.2.1 (p + 12) x1.toNatClampNeg).toNatClampNeg), .int v6.1] okX2_setCell (q_sh90 (w.fx fx10)) (by decide) rfl lmX6_203 inX2_setCell seX2_setCell rfl (Nat.le_of_ble_eq_true rfl) (Nat.le_of_ble_eq_true rfl) (Nat.le_refl _) (Nat.le_refl _) dX6_useObject_179 (q_L.deep (by decide) (kX2_setCell (Q := fun r S' => r = none ∧ S' = r24) (w.fx fx10) e25 ⟨rfl, rfl⟩)) (q_kV ?_)
                have fx26 : q_Fx S r24 := q_Fx.tr (fx10) (fxX2_setCell e25)
                refine q_goto 215 (by decide) dX6_useObject_182 ?_
                obtain rfl := Option.some.inj h
                exact q_vret rfl dX6_useObject_215 hQ
            · rw [if_pos c] at h
              refine q_aload_n 1 rfl rfl dX6_useObject_150 ?_
              refine q_iconst (v := (2 : Int32)) (by decide) dX6_useObject_151 ?_
              obtain ⟨r27, e28, h⟩ := q_bind h
              refine q_callV (ci := 6) (d := 3) (Mc := mX6_raise) (kc := 0) (nc := 0) [.int (2 : Int32)] okX6_raise (q_sh89 (w.fx fx10)) (by decide) rfl lmX6_178 inX6_raise seX6_raise rfl (Nat.le_of_ble_eq_true rfl) (Nat.le_of_ble_eq_true rfl) (Nat.le_refl _) (Nat.le_refl _) dX6_useObject_152 (q_L.deep (by decide) (kX6_raise (Q := fun r S' => r = none ∧ S' = r27) (w.fx fx10) e28 ⟨rfl, rfl⟩)) (q_kV ?_)
              have fx29 : q_Fx S r27 := q_Fx.tr (fx10) (fxX6_raise e28)
              refine q_goto 215 (by decide) dX6_useObject_155 ?_
              obtain rfl := Option.some.inj h
              exact q_vret rfl dX6_useObject_215 hQ
          · rw [if_pos c] at h
            refine q_aload_n 1 rfl rfl dX6_useObject_136 ?_
            refine q_bipush (v := (6 : Int32)) (by decide) dX6_useObject_137 ?_
            obtain ⟨r30, e31, h⟩ := q_bind h
            refine q_callV (ci := 6) (d := 3) (Mc := mX6_raise) (kc := 0) (nc := 0) [.int (6 : Int32)] okX6_raise (q_sh89 (w.fx fx10)) (by decide) rfl lmX6_178 inX6_raise seX6_raise rfl (Nat.le_of_ble_eq_true rfl) (Nat.le_of_ble_eq_true rfl) (Nat.le_refl _) (Nat.le_refl _) dX6_useObject_139 (q_L.deep (by decide) (kX6_raise (Q := fun r S' => r = none ∧ S' = r30) (w.fx fx10) e31 ⟨rfl, rfl⟩)) (q_kV ?_)
            have fx32 : q_Fx S r30 := q_Fx.tr (fx10) (fxX6_raise e31)
            refine q_goto 215 (by decide) dX6_useObject_142 ?_
            obtain rfl := Option.some.inj h
            exact q_vret rfl dX6_useObject_215 hQ
        · rw [if_pos c] at h
          refine q_iload 0 rfl dX6_useObject_111 ?_
          refine q_if_ne 121 (by decide) dX6_useObject_113 (fun c => ?_) (fun c => ?_)
          · have c := q_b_n.mp c; rw [q_if1 c] at h
            refine q_aload_n 1 rfl rfl dX6_useObject_121 ?_
            refine q_iload 6 rfl dX6_useObject_122 ?_
            obtain ⟨r33, e34, h⟩ := q_bind h
            refine q_callV (ci := 6) (d := 3) (Mc := mX6_pushObject) (kc := 0) (nc := 0) [.int r8.1] okX6_pushObject (q_sh89 (w.fx fx10)) (by decide) rfl lmX6_169 inX6_pushObject seX6_pushObject rfl (Nat.le_of_ble_eq_true rfl) (Nat.le_of_ble_eq_true rfl) (Nat.le_refl _) (Nat.le_refl _) dX6_useObject_124 (q_L.deep (by decide) (kX6_pushObject (Q := fun r S' => r = none ∧ S' = r33) (w.fx fx10) e34 ⟨rfl, rfl⟩)) (q_kV ?_)
            have fx35 : q_Fx S r33 := q_Fx.tr (fx10) (fxX6_pushObject e34)
            refine q_goto 215 (by decide) dX6_useObject_127 ?_
            obtain rfl := Option.some.inj h
            exact q_vret rfl dX6_useObject_215 hQ
          · have c := q_b_0.mp c; rw [q_if0 c] at h
            refine q_iload 6 rfl dX6_useObject_116 ?_
            refine q_if_ne 130 (by decide) dX6_useObject_118 (fun c => ?_) (fun c => ?_)
            · rw [if_neg c] at h
              refine q_iload_n 2 rfl rfl dX6_useObject_130 ?_
              refine q_bipush (v := (37 : Int32)) (by decide) dX6_useObject_131 ?_
              refine q_icmp_ne 145 (by decide) dX6_useObject_133 (fun c => ?_) (fun c => ?_)
              · rw [if_neg c] at h
                refine q_iload 6 rfl dX6_useObject_145 ?_
                refine q_if_ne 158 (by decide) dX6_useObject_147 (fun c => ?_) (fun c => ?_)
                · rw [if_neg c] at h
                  refine q_iload_n 2 rfl rfl dX6_useObject_158 ?_
                  refine q_bipush (v := (36 : Int32)) (by decide) dX6_useObject_159 ?_
                  refine q_icmp_ne 185 (by decide) dX6_useObject_161 (fun c => ?_) (fun c => ?_)
                  · rw [if_neg c] at h
                    refine q_aload_n 1 rfl rfl dX6_useObject_185 ?_
                    refine q_iload 6 rfl dX6_useObject_186 ?_
                    refine q_aload 4 rfl dX6_useObject_188 ?_
                    refine q_getRN (q_shP1 (w.fx fx10) hp) (by decide) (by decide) rfl lfX6_220 dX6_useObject_190 (r := (p + 9)) (q_wrP1_9 (w.fx fx10) hp) ?_
                    refine q_iload_n 3 rfl rfl dX6_useObject_193 ?_
                    obtain ⟨hg36, h⟩ := q_guard h
                    refine q_iald (q_shP9 (w.fx fx10) hp) (q_inb_in hg36) dX6_useObject_194 ?_
                    refine q_aload 4 rfl dX6_useObject_195 ?_
                    refine q_getRN (q_shP1 (w.fx fx10) hp) (by decide) (by decide) rfl lfX6_223 dX6_useObject_197 (r := (p + 8)) (q_wrP1_8 (w.fx fx10) hp) ?_
                    refine q_iload_n 3 rfl rfl dX6_useObject_200 ?_
                    obtain ⟨hg37, h⟩ := q_guard h
                    refine q_iald (q_shP8 (w.fx fx10) hp) (q_inb_in hg37) dX6_useObject_201 ?_
                    refine q_bipush (v := (66 : Int32)) (by decide) dX6_useObject_202 ?_
                    refine q_icmp_ne 211 (by decide) dX6_useObject_204 (fun c => ?_) (fun c => ?_)
                    · rw [if_neg c] at h
                      refine q_iconst (v := (0 : Int32)) (by decide) dX6_useObject_211 ?_
                      obtain ⟨r38, e39, h⟩ := q_bind h
                      refine q_callV (ci := 6) (d := 3) (Mc := mX6_pushCell) (kc := 0) (nc := 0) [.int r8.1, .int (r8.2.2.1 (p + 9) (S.2.1 (p + 12) x1.toNatClampNeg).toNatClampNeg), .int (0 : Int32)] okX6_pushCell (q_sh89 (w.fx fx10)) (by decide) rfl lmX6_196 inX6_pushCell seX6_pushCell rfl (Nat.le_of_ble_eq_true rfl) (Nat.le_of_ble_eq_true rfl) (Nat.le_refl _) (Nat.le_refl _) dX6_useObject_212 (q_L.deep (by decide) (kX6_pushCell (Q := fun r S' => r = none ∧ S' = r38) (w.fx fx10) e39 ⟨rfl, rfl⟩)) (q_kV ?_)
                      have fx40 : q_Fx S r38 := q_Fx.tr (fx10) (fxX6_pushCell e39)
                      obtain rfl := Option.some.inj h
                      exact q_vret rfl dX6_useObject_215 hQ
                    · rw [if_pos c] at h
                      refine q_iconst (v := (1 : Int32)) (by decide) dX6_useObject_207 ?_
                      refine q_goto 212 (by decide) dX6_useObject_208 ?_
                      obtain ⟨r41, e42, h⟩ := q_bind h
                      refine q_callV (ci := 6) (d := 3) (Mc := mX6_pushCell) (kc := 0) (nc := 0) [.int r8.1, .int (r8.2.2.1 (p + 9) (S.2.1 (p + 12) x1.toNatClampNeg).toNatClampNeg), .int (1 : Int32)] okX6_pushCell (q_sh89 (w.fx fx10)) (by decide) rfl lmX6_196 inX6_pushCell seX6_pushCell rfl (Nat.le_of_ble_eq_true rfl) (Nat.le_of_ble_eq_true rfl) (Nat.le_refl _) (Nat.le_refl _) dX6_useObject_212 (q_L.deep (by decide) (kX6_pushCell (Q := fun r S' => r = none ∧ S' = r41) (w.fx fx10) e42 ⟨rfl, rfl⟩)) (q_kV ?_)
                      have fx43 : q_Fx S r41 := q_Fx.tr (fx10) (fxX6_pushCell e42)
                      obtain rfl := Option.some.inj h
                      exact q_vret rfl dX6_useObject_215 hQ
                  · rw [if_pos c] at h
                    refine q_aload_n 1 rfl rfl dX6_useObject_164 ?_
                    refine q_getR (q_sh89 (w.fx fx10)) (by decide) (by decide) rfl lfX6_12 dX6_useObject_165 (r := 90) (q_wr89_2 (w.fx fx10)) ?_
                    refine q_iload 6 rfl dX6_useObject_168 ?_
                    refine q_aload 4 rfl dX6_useObject_170 ?_
                    refine q_getRN (q_shP1 (w.fx fx10) hp) (by decide) (by decide) rfl lfX6_220 dX6_useObject_172 (r := (p + 9)) (q_wrP1_9 (w.fx fx10) hp) ?_
                    refine q_iload_n 3 rfl rfl dX6_useObject_175 ?_
                    obtain ⟨hg44, h⟩ := q_guard h
                    refine q_iald (q_shP9 (w.fx fx10) hp) (q_inb_in hg44) dX6_useObject_176 ?_
                    refine q_iload 5 rfl dX6_useObject_177 ?_
                    obtain ⟨r45, e46, h⟩ := q_bind h
                    refine q_callV (ci := 2) (d := 3) (Mc := mX2_setCell) (kc := 0) (nc := 0) [.int r8.1, .int (r8.2.2.1 (p + 9) (S.2.1 (p + 12) x1.toNatClampNeg).toNatClampNeg), .int v6.1] okX2_setCell (q_sh90 (w.fx fx10)) (by decide) rfl lmX6_203 inX2_setCell seX2_setCell rfl (Nat.le_of_ble_eq_true rfl) (Nat.le_of_ble_eq_true rfl) (Nat.le_refl _) (Nat.le_refl _) dX6_useObject_179 (q_L.deep (by decide) (kX2_setCell (Q := fun r S' => r = none ∧ S' = r45) (w.fx fx10) e46 ⟨rfl, rfl⟩)) (q_kV ?_)
                    have fx47 : q_Fx S r45 := q_Fx.tr (fx10) (fxX2_setCell e46)
                    refine q_goto 215 (by decide) dX6_useObject_182 ?_
                    obtain rfl := Option.some.inj h
                    exact q_vret rfl dX6_useObject_215 hQ
                · rw [if_pos c] at h
                  refine q_aload_n 1 rfl rfl dX6_useObject_150 ?_
                  refine q_iconst (v := (2 : Int32)) (by decide) dX6_useObject_151 ?_
                  obtain ⟨r48, e49, h⟩ := q_bind h
                  refine q_callV (ci := 6) (d := 3) (Mc := mX6_raise) (kc := 0) (nc := 0) [.int (2 : Int32)] okX6_raise (q_sh89 (w.fx fx10)) (by decide) rfl lmX6_178 inX6_raise seX6_raise rfl (Nat.le_of_ble_eq_true rfl) (Nat.le_of_ble_eq_true rfl) (Nat.le_refl _) (Nat.le_refl _) dX6_useObject_152 (q_L.deep (by decide) (kX6_raise (Q := fun r S' => r = none ∧ S' = r48) (w.fx fx10) e49 ⟨rfl, rfl⟩)) (q_kV ?_)
                  have fx50 : q_Fx S r48 := q_Fx.tr (fx10) (fxX6_raise e49)
                  refine q_goto 215 (by decide) dX6_useObject_155 ?_
                  obtain rfl := Option.some.inj h
                  exact q_vret rfl dX6_useObject_215 hQ
              · rw [if_pos c] at h
                refine q_aload_n 1 rfl rfl dX6_useObject_136 ?_
                refine q_bipush (v := (6 : Int32)) (by decide) dX6_useObject_137 ?_
                obtain ⟨r51, e52, h⟩ := q_bind h
                refine q_callV (ci := 6) (d := 3) (Mc := mX6_raise) (kc := 0) (nc := 0) [.int (6 : Int32)] okX6_raise (q_sh89 (w.fx fx10)) (by decide) rfl lmX6_178 inX6_raise seX6_raise rfl (Nat.le_of_ble_eq_true rfl) (Nat.le_of_ble_eq_true rfl) (Nat.le_refl _) (Nat.le_refl _) dX6_useObject_139 (q_L.deep (by decide) (kX6_raise (Q := fun r S' => r = none ∧ S' = r51) (w.fx fx10) e52 ⟨rfl, rfl⟩)) (q_kV ?_)
                have fx53 : q_Fx S r51 := q_Fx.tr (fx10) (fxX6_raise e52)
                refine q_goto 215 (by decide) dX6_useObject_142 ?_
                obtain rfl := Option.some.inj h
                exact q_vret rfl dX6_useObject_215 hQ
            · rw [if_pos c] at h
              refine q_aload_n 1 rfl rfl dX6_useObject_121 ?_
              refine q_iload 6 rfl dX6_useObject_122 ?_
              obtain ⟨r54, e55, h⟩ := q_bind h
              refine q_callV (ci := 6) (d := 3) (Mc := mX6_pushObject) (kc := 0) (nc := 0) [.int r8.1] okX6_pushObject (q_sh89 (w.fx fx10)) (by decide) rfl lmX6_169 inX6_pushObject seX6_pushObject rfl (Nat.le_of_ble_eq_true rfl) (Nat.le_of_ble_eq_true rfl) (Nat.le_refl _) (Nat.le_refl _) dX6_useObject_124 (q_L.deep (by decide) (kX6_pushObject (Q := fun r S' => r = none ∧ S' = r54) (w.fx fx10) e55 ⟨rfl, rfl⟩)) (q_kV ?_)
              have fx56 : q_Fx S r54 := q_Fx.tr (fx10) (fxX6_pushObject e55)
              refine q_goto 215 (by decide) dX6_useObject_127 ?_
              obtain rfl := Option.some.inj h
              exact q_vret rfl dX6_useObject_215 hQ
      · rw [if_pos c] at h
        refine q_aload_n 1 rfl rfl dX6_useObject_88 ?_
        refine q_iload 0 rfl dX6_useObject_89 ?_
        refine q_if_eq 98 (by decide) dX6_useObject_91 (fun c => ?_) (fun c => ?_)
        · have c := q_b_0.mp c; rw [q_if0 c] at h
          refine q_iconst (v := (0 : Int32)) (by decide) dX6_useObject_98 ?_
          obtain ⟨r57, e58, h⟩ := q_bind h
          refine q_callV (ci := 6) (d := 3) (Mc := mX6_pushInt) (kc := 0) (nc := 0) [.int (0 : Int32)] okX6_pushInt (q_sh89 (w.fx fx10)) (by decide) rfl lmX6_166 inX6_pushInt seX6_pushInt rfl (Nat.le_of_ble_eq_true rfl) (Nat.le_of_ble_eq_true rfl) (Nat.le_refl _) (Nat.le_refl _) dX6_useObject_99 (q_L.deep (by decide) (kX6_pushInt (Q := fun r S' => r = none ∧ S' = r57) (w.fx fx10) e58 ⟨rfl, rfl⟩)) (q_kV ?_)
          have fx59 : q_Fx S r57 := q_Fx.tr (fx10) (fxX6_pushInt e58)
          refine q_goto 215 (by decide) dX6_useObject_102 ?_
          obtain rfl := Option.some.inj h
          exact q_vret rfl dX6_useObject_215 hQ
        · have c := q_b_n.mp c; rw [q_if1 c] at h
          refine q_iconst (v := (1 : Int32)) (by decide) dX6_useObject_94 ?_
          refine q_goto 99 (by decide) dX6_useObject_95 ?_
          obtain ⟨r60, e61, h⟩ := q_bind h
          refine q_callV (ci := 6) (d := 3) (Mc := mX6_pushInt) (kc := 0) (nc := 0) [.int (1 : Int32)] okX6_pushInt (q_sh89 (w.fx fx10)) (by decide) rfl lmX6_166 inX6_pushInt seX6_pushInt rfl (Nat.le_of_ble_eq_true rfl) (Nat.le_of_ble_eq_true rfl) (Nat.le_refl _) (Nat.le_refl _) dX6_useObject_99 (q_L.deep (by decide) (kX6_pushInt (Q := fun r S' => r = none ∧ S' = r60) (w.fx fx10) e61 ⟨rfl, rfl⟩)) (q_kV ?_)
          have fx62 : q_Fx S r60 := q_Fx.tr (fx10) (fxX6_pushInt e61)
          refine q_goto 215 (by decide) dX6_useObject_102 ?_
          obtain rfl := Option.some.inj h
          exact q_vret rfl dX6_useObject_215 hQ
    replace h := hv
    refine q_if_eq 79 (by decide) dX6_useObject_53 (fun c => ?_) (fun c => ?_)
    · rw [if_pos c] at h
      refine q_iconst (v := (0 : Int32)) (by decide) dX6_useObject_79 ?_
      obtain rfl := Option.some.inj h
      refine q_sub [2, 3, 4, 5, 1, 0] rfl ?_
      exact K2
    · rw [if_neg c] at h
      refine q_aload 5 rfl dX6_useObject_56 ?_
      refine q_aload_n 2 rfl rfl dX6_useObject_58 ?_
      refine q_getR (q_sh89 (w.fx fx10)) (by decide) (by decide) rfl lfX6_12 dX6_useObject_59 (r := 90) (q_wr89_2 (w.fx fx10)) ?_
      refine q_getRN (q_sh90 (w.fx fx10)) (by decide) (by decide) rfl lfX6_163 dX6_useObject_62 (r := 91) (q_wr90_0 (w.fx fx10)) ?_
      refine q_iload 0 rfl dX6_useObject_65 ?_
      obtain ⟨hg11, h⟩ := q_guard h
      refine q_iald (q_sh91 (w.fx fx10)) (q_inb_in hg11) dX6_useObject_67 ?_
      refine q_iload_n 4 rfl rfl dX6_useObject_68 ?_
      obtain ⟨r12, e13, h⟩ := q_bind h
      refine q_callV (ci := 0) (d := 3) (Mc := mX0_isBelow) (kc := 0) (nc := 0) [.int (r8.2.2.1 91 r8.1.toNatClampNeg), .int (S.2.1 (p + 12) x1.toNatClampNeg)] okX0_isBelow (q_shP1 (w.fx fx10) hp) (by decide) rfl lmX6_209 inX0_isBelow seX0_isBelow rfl (Nat.le_of_ble_eq_true rfl) (Nat.le_of_ble_eq_true rfl) (Nat.le_refl _) (Nat.le_refl _) dX6_useObject_69 (q_L.deep (by decide) (kX0_isBelow (Q := fun r S' => r = some (.int (q_b r12)) ∧ S' = r8.2) (w.fx fx10) hp e13 ⟨rfl, rfl⟩)) (q_kI ?_)
      refine q_if_eq 79 (by decide) dX6_useObject_72 (fun c => ?_) (fun c => ?_)
      · have c := q_b_0.mp c; rw [q_if0 c] at h
        refine q_iconst (v := (0 : Int32)) (by decide) dX6_useObject_79 ?_
        obtain rfl := Option.some.inj h
        refine q_sub [2, 3, 4, 5, 1, 0] rfl ?_
        exact K2
      · have c := q_b_n.mp c; rw [q_if1 c] at h
        refine q_iconst (v := (1 : Int32)) (by decide) dX6_useObject_75 ?_
        refine q_goto 80 (by decide) dX6_useObject_76 ?_
        obtain rfl := Option.some.inj h
        refine q_sub [2, 3, 4, 5, 1, 0] rfl ?_
        exact K2
  replace h := hv
  refine q_icmp_ne 42 (by decide) dX6_useObject_32 (fun c => ?_) (fun c => ?_)
  · rw [if_neg c] at h
    refine q_iconst (v := (0 : Int32)) (by decide) dX6_useObject_42 ?_
    obtain rfl := Option.some.inj h
    refine q_sub [3, 2, 1, 0] rfl ?_
    exact K1
  · rw [if_pos c] at h
    refine q_aload_n 3 rfl rfl dX6_useObject_35 ?_
    obtain ⟨r3, e4, h⟩ := q_bind h
    refine q_callV (ci := 6) (d := 3) (Mc := mX6_pop) (kc := 0) (nc := 0) [] okX6_pop (q_sh89 w) (by decide) rfl lmX6_172 inX6_pop seX6_pop rfl (Nat.le_of_ble_eq_true rfl) (Nat.le_of_ble_eq_true rfl) (Nat.le_refl _) (Nat.le_refl _) dX6_useObject_36 (q_L.deep (by decide) (kX6_pop (Q := fun r S' => r = some (.int r3.1) ∧ S' = r3.2) w e4 ⟨rfl, rfl⟩)) (q_kI ?_)
    have fx5 : q_Fx S r3.2 := q_Fx.tr (q_Fx.rf S) (fxX6_pop e4)
    refine q_goto 43 (by decide) dX6_useObject_39 ?_
    obtain rfl := Option.some.inj h
    refine q_sub [3, 2, 1, 0] rfl ?_
    exact K1
set_option maxRecDepth 20000 in
theorem kX6_enter {S : QS} {g : QG} {Q : Option Value → QS → Prop} {p : Nat} {x1 : Int32} {x2 : Int32} {r : QS} (w : q_Wire S) (hp : q_pok p) (aR : q_aR S p) (h : fX6_enter S p x1 x2 = some r) (hQ : Q none r) : q_M g mX6_enter 2 0 0 [.ref 89, .int x1, .int x2] S Q := by
  unfold fX6_enter at h
  show q_L g mX6_enter 2 0 0 Q 0 0 0 [(0, .ref 89), (1, .int x1), (2, .int x2)] [] S
  refine q_aload_n 0 rfl rfl dX6_enter_0 ?_
  refine q_getI (q_sh89 w) (by decide) (by decide) rfl lfX6_77 dX6_enter_1 ?_
  refine q_iconst (v := (1 : Int32)) (by decide) dX6_enter_4 ?_
  refine q_iadd dX6_enter_5 ?_
  refine q_bipush (v := (64 : Int32)) (by decide) dX6_enter_6 ?_
  refine q_icmp_ne 17 (by decide) dX6_enter_8 (fun c => ?_) (fun c => ?_)
  · rw [if_neg c] at h
    refine q_aload_n 0 rfl rfl dX6_enter_17 ?_
    refine q_getR (q_sh89 w) (by decide) (by decide) rfl lfX6_29 dX6_enter_18 (r := 99) (q_wr89_6 w) ?_
    refine q_aload_n 0 rfl rfl dX6_enter_21 ?_
    refine q_getI (q_sh89 w) (by decide) (by decide) rfl lfX6_77 dX6_enter_22 ?_
    refine q_dup2 rfl rfl dX6_enter_25 ?_
    obtain ⟨hg1, h⟩ := q_guard h
    refine q_iald (q_sh99 w) (q_inb_in hg1) dX6_enter_26 ?_
    refine q_iload_n 2 rfl rfl dX6_enter_27 ?_
    refine q_isub dX6_enter_28 ?_
    obtain ⟨hg2, h⟩ := q_guard h
    refine q_iast (q_sh99 w) (q_inb_in hg2) dX6_enter_29 ?_
    obtain ⟨S3, e4, h⟩ := q_bindS h
    refine q_st e4 ?_
    have fx5 : q_Fx S S3 := e4 ▸ q_Fx.sI (q_Fx.rf S)
    refine q_aload_n 0 rfl rfl dX6_enter_30 ?_
    obtain ⟨r6, e7, h⟩ := q_bind h
    refine q_callV (ci := 6) (d := 1) (Mc := mX6_top) (kc := 0) (nc := 0) [] okX6_top (q_sh89 (w.fx fx5)) (by decide) rfl lmX6_138 inX6_top seX6_top rfl (Nat.le_of_ble_eq_true rfl) (Nat.le_of_ble_eq_true rfl) (Nat.le_refl _) (Nat.le_refl _) dX6_enter_31 (q_L.deep (by decide) (kX6_top (Q := fun r S' => r = some (.int r6) ∧ S' = S3) (w.fx fx5) e7 ⟨rfl, rfl⟩)) (q_kI ?_)
    refine q_istore_n [(3, .int r6), (0, .ref 89), (1, .int x1), (2, .int x2)] rfl (by decide) rfl dX6_enter_34 ?_
    refine q_aload_n 1 rfl rfl dX6_enter_35 ?_
    refine q_dup rfl dX6_enter_36 ?_
    refine q_getI (q_sh89 (w.fx fx5)) (by decide) (by decide) rfl lfX6_77 dX6_enter_37 ?_
    refine q_iconst (v := (1 : Int32)) (by decide) dX6_enter_40 ?_
    refine q_iadd dX6_enter_41 ?_
    refine q_putI (q_sh89 (w.fx fx5)) (by decide) (by decide) rfl rfl ⟨rfl, rfl⟩ lfX6_77 dX6_enter_42 ?_
    obtain ⟨S8, e9, h⟩ := q_bindS h
    refine q_st e9 ?_
    have fx10 : q_Fx S S8 := e9 ▸ q_Fx.sI (fx5)
    refine q_aload_n 1 rfl rfl dX6_enter_45 ?_
    refine q_getI (q_sh89 (w.fx fx10)) (by decide) (by decide) rfl lfX6_77 dX6_enter_46 ?_
    refine q_bipush (v := (20 : Int32)) (by decide) dX6_enter_49 ?_
    refine q_imul dX6_enter_51 ?_
    refine q_istore [(4, .int ((S8.2.1 89 7) * (20 : Int32))), (3, .int r6), (0, .ref 89), (1, .int x1), (2, .int x2)] (by decide) rfl dX6_enter_52 ?_
    refine q_aload_n 2 rfl rfl dX6_enter_54 ?_
    refine q_getR (q_sh89 (w.fx fx10)) (by decide) (by decide) rfl lfX6_18 dX6_enter_55 (r := 96) (q_wr89_3 (w.fx fx10)) ?_
    refine q_iload_n 1 rfl rfl dX6_enter_58 ?_
    refine q_aload_n 2 rfl rfl dX6_enter_59 ?_
    refine q_getR (q_sh89 (w.fx fx10)) (by decide) (by decide) rfl lfX6_18 dX6_enter_60 (r := 96) (q_wr89_3 (w.fx fx10)) ?_
    refine q_iload 0 rfl dX6_enter_63 ?_
    refine q_iload_n 4 rfl rfl dX6_enter_65 ?_
    obtain ⟨hg11, h⟩ := q_guard h
    obtain ⟨k1, k2, k3, k4, k5, k6⟩ := q_cpok_of hg11
    refine q_copy (by decide) (by decide) (q_sh96 (w.fx fx10)) (q_sh96 (w.fx fx10)) k1 k2 k3 k4 k5 k6 lmX6_248 q_acn q_acs q_aci (Nat.le_of_ble_eq_true rfl) dX6_enter_66 ?_
    obtain ⟨S12, e13, h⟩ := q_bindS h
    refine q_st e13 ?_
    have fx14 : q_Fx S S12 := e13 ▸ q_Fx.cp (fx10)
    refine q_aload_n 2 rfl rfl dX6_enter_69 ?_
    refine q_getR (q_sh89 (w.fx fx14)) (by decide) (by decide) rfl lfX6_22 dX6_enter_70 (r := 97) (q_wr89_4 (w.fx fx14)) ?_
    refine q_iload_n 1 rfl rfl dX6_enter_73 ?_
    refine q_aload_n 2 rfl rfl dX6_enter_74 ?_
    refine q_getR (q_sh89 (w.fx fx14)) (by decide) (by decide) rfl lfX6_22 dX6_enter_75 (r := 97) (q_wr89_4 (w.fx fx14)) ?_
    refine q_iload 0 rfl dX6_enter_78 ?_
    refine q_iload_n 4 rfl rfl dX6_enter_80 ?_
    obtain ⟨hg15, h⟩ := q_guard h
    obtain ⟨k1, k2, k3, k4, k5, k6⟩ := q_cpok_of hg15
    refine q_copy (by decide) (by decide) (q_sh97 (w.fx fx14)) (q_sh97 (w.fx fx14)) k1 k2 k3 k4 k5 k6 lmX6_248 q_acn q_acs q_aci (Nat.le_of_ble_eq_true rfl) dX6_enter_81 ?_
    obtain ⟨S16, e17, h⟩ := q_bindS h
    refine q_st e17 ?_
    have fx18 : q_Fx S S16 := e17 ▸ q_Fx.cp (fx14)
    refine q_aload_n 2 rfl rfl dX6_enter_84 ?_
    refine q_getR (q_sh89 (w.fx fx18)) (by decide) (by decide) rfl lfX6_22 dX6_enter_85 (r := 97) (q_wr89_4 (w.fx fx18)) ?_
    refine q_iload 0 rfl dX6_enter_88 ?_
    refine q_iload_n 4 rfl rfl dX6_enter_90 ?_
    refine q_iadd dX6_enter_91 ?_
    refine q_iload 0 rfl dX6_enter_92 ?_
    refine q_bipush (v := (12 : Int32)) (by decide) dX6_enter_94 ?_
    refine q_iadd dX6_enter_96 ?_
    refine q_bipush (v := (67 : Int32)) (by decide) dX6_enter_97 ?_
    obtain ⟨r19, e20, h⟩ := q_bind h
    refine q_callS (d := 1) (Mc := mJ7_fill_eb02e) (kc := 0) (nc := 0) [.ref 97, .int (((S8.2.1 89 7) * (20 : Int32)) + x2), .int (((S8.2.1 89 7) * (20 : Int32)) + (12 : Int32)), .int (67 : Int32)] okJ7_fill_eb02e lmX6_80 inJ7_fill_eb02e rfl (Nat.le_of_ble_eq_true rfl) (Nat.le_of_ble_eq_true rfl) (Nat.le_refl _) (Nat.le_refl _) dX6_enter_99 (q_L.deep (by decide) (kJ7_fill_eb02e (Q := fun r S' => r = none ∧ S' = r19) (w.fx fx18) (q_sh97 (w.fx fx18)) e20 ⟨rfl, rfl⟩)) (q_kV ?_)
    have fx21 : q_Fx S r19 := q_Fx.tr (fx18) (fxJ7_fill_eb02e e20)
    refine q_aload_n 2 rfl rfl dX6_enter_102 ?_
    refine q_getR (q_sh89 (w.fx fx21)) (by decide) (by decide) rfl lfX6_29 dX6_enter_103 (r := 99) (q_wr89_6 (w.fx fx21)) ?_
    refine q_aload_n 2 rfl rfl dX6_enter_106 ?_
    refine q_getI (q_sh89 (w.fx fx21)) (by decide) (by decide) rfl lfX6_77 dX6_enter_107 ?_
    refine q_iconst (v := (0 : Int32)) (by decide) dX6_enter_110 ?_
    obtain ⟨hg22, h⟩ := q_guard h
    refine q_iast (q_sh99 (w.fx fx21)) (q_inb_in hg22) dX6_enter_111 ?_
    obtain ⟨S23, e24, h⟩ := q_bindS h
    refine q_st e24 ?_
    have fx25 : q_Fx S S23 := e24 ▸ q_Fx.sI (fx21)
    refine q_aload_n 2 rfl rfl dX6_enter_112 ?_
    refine q_getR (q_sh89 (w.fx fx25)) (by decide) (by decide) rfl lfX6_26 dX6_enter_113 (r := 98) (q_wr89_5 (w.fx fx25)) ?_
    refine q_aload_n 2 rfl rfl dX6_enter_116 ?_
    refine q_getI (q_sh89 (w.fx fx25)) (by decide) (by decide) rfl lfX6_77 dX6_enter_117 ?_
    refine q_aload_n 2 rfl rfl dX6_enter_120 ?_
    refine q_getR (q_sh89 (w.fx fx25)) (by decide) (by decide) rfl lfX6_45 dX6_enter_121 (r := p) (aR.fx fx25).1 ?_
    refine q_getRN (q_shP0 (w.fx fx25) hp) (by decide) (by decide) rfl lfX6_86 dX6_enter_124 (r := (p + 29)) (q_wrP0_10 (w.fx fx25) hp) ?_
    refine q_iload_n 3 rfl rfl dX6_enter_127 ?_
    obtain ⟨hg26, h⟩ := q_guard h
    refine q_iald (q_shP29 (w.fx fx25) hp) (q_inb_in hg26) dX6_enter_128 ?_
    obtain ⟨hg27, h⟩ := q_guard h
    refine q_iast (q_sh98 (w.fx fx25)) (q_inb_in hg27) dX6_enter_129 ?_
    obtain ⟨S28, e29, h⟩ := q_bindS h
    refine q_st e29 ?_
    have fx30 : q_Fx S S28 := e29 ▸ q_Fx.sI (fx25)
    obtain rfl := Option.some.inj h
    exact q_vret rfl dX6_enter_130 hQ
  · rw [if_pos c] at h
    refine q_aload_n 0 rfl rfl dX6_enter_11 ?_
    refine q_iconst (v := (4 : Int32)) (by decide) dX6_enter_12 ?_
    refine q_putI (q_sh89 w) (by decide) (by decide) rfl rfl ⟨rfl, rfl⟩ lfX6_71 dX6_enter_13 ?_
    obtain ⟨S31, e32, h⟩ := q_bindS h
    refine q_st e32 ?_
    have fx33 : q_Fx S S31 := e32 ▸ q_Fx.sI (q_Fx.rf S)
    obtain rfl := Option.some.inj h
    exact q_vret rfl dX6_enter_16 hQ
set_option maxRecDepth 20000 in
theorem kX6_send {S : QS} {g : QG} {Q : Option Value → QS → Prop} {p : Nat} {x1 : Int32} {x2 : Int32} {r : QS} (w : q_Wire S) (hp : q_pok p) (aR : q_aR S p) (h : fX6_send S p x1 x2 = some r) (hQ : Q none r) : q_M g mX6_send 4 0 0 [.ref 89, .int x1, .int x2] S Q := by
  unfold fX6_send at h
  show q_L g mX6_send 4 0 0 Q 0 0 0 [(0, .ref 89), (1, .int x1), (2, .int x2)] [] S
  refine q_iload_n 2 rfl rfl dX6_send_0 ?_
  refine q_if_ne 12 (by decide) dX6_send_1 (fun c => ?_) (fun c => ?_)
  · rw [if_neg c] at h
    refine q_aload_n 0 rfl rfl dX6_send_12 ?_
    refine q_aload_n 0 rfl rfl dX6_send_13 ?_
    refine q_getR (q_sh89 w) (by decide) (by decide) rfl lfX6_45 dX6_send_14 (r := p) (aR).1 ?_
    refine q_aload_n 0 rfl rfl dX6_send_17 ?_
    refine q_getR (q_sh89 w) (by decide) (by decide) rfl lfX6_12 dX6_send_18 (r := 90) (q_wr89_2 w) ?_
    refine q_getRN (q_sh90 w) (by decide) (by decide) rfl lfX6_163 dX6_send_21 (r := 91) (q_wr90_0 w) ?_
    refine q_iload_n 2 rfl rfl dX6_send_24 ?_
    obtain ⟨hg1, h⟩ := q_guard h
    refine q_iald (q_sh91 w) (q_inb_in hg1) dX6_send_25 ?_
    refine q_iload_n 1 rfl rfl dX6_send_26 ?_
    obtain ⟨r2, e3, h⟩ := q_bind h
    refine q_callV (ci := 5) (d := 3) (Mc := mX5_bodyOf) (kc := 0) (nc := 0) [.int (S.2.1 91 x2.toNatClampNeg), .int x1] okX5_bodyOf (q_shP0 w hp) (by decide) rfl lmX6_245 inX5_bodyOf seX5_bodyOf rfl (Nat.le_of_ble_eq_true rfl) (Nat.le_of_ble_eq_true rfl) (Nat.le_refl _) (Nat.le_refl _) dX6_send_27 (q_L.deep (by decide) (kX5_bodyOf (Q := fun r S' => r = some (.int r2) ∧ S' = S) w hp e3 ⟨rfl, rfl⟩)) (q_kI ?_)
    refine q_aload_n 0 rfl rfl dX6_send_30 ?_
    refine q_getR (q_sh89 w) (by decide) (by decide) rfl lfX6_45 dX6_send_31 (r := p) (aR).1 ?_
    refine q_getRN (q_shP0 w hp) (by decide) (by decide) rfl lfX6_226 dX6_send_34 (r := (p + 25)) (q_wrP0_6 w hp) ?_
    refine q_iload_n 1 rfl rfl dX6_send_37 ?_
    obtain ⟨hg4, h⟩ := q_guard h
    refine q_iald (q_shP25 w hp) (q_inb_in hg4) dX6_send_38 ?_
    obtain ⟨r5, e6, h⟩ := q_bind h
    refine q_callV (ci := 6) (d := 3) (Mc := mX6_enter) (kc := 0) (nc := 0) [.int r2, .int (S.2.1 (p + 25) x1.toNatClampNeg)] okX6_enter (q_sh89 w) (by decide) rfl lmX6_229 inX6_enter seX6_enter rfl (Nat.le_of_ble_eq_true rfl) (Nat.le_of_ble_eq_true rfl) (Nat.le_refl _) (Nat.le_refl _) dX6_send_39 (q_L.deep (by decide) (kX6_enter (Q := fun r S' => r = none ∧ S' = r5) w hp (aR) e6 ⟨rfl, rfl⟩)) (q_kV ?_)
    have fx7 : q_Fx S r5 := q_Fx.tr (q_Fx.rf S) (fxX6_enter e6)
    obtain rfl := Option.some.inj h
    exact q_vret rfl dX6_send_42 hQ
  · rw [if_pos c] at h
    refine q_aload_n 0 rfl rfl dX6_send_4 ?_
    refine q_iconst (v := (2 : Int32)) (by decide) dX6_send_5 ?_
    obtain ⟨r8, e9, h⟩ := q_bind h
    refine q_callV (ci := 6) (d := 3) (Mc := mX6_raise) (kc := 0) (nc := 0) [.int (2 : Int32)] okX6_raise (q_sh89 w) (by decide) rfl lmX6_178 inX6_raise seX6_raise rfl (Nat.le_of_ble_eq_true rfl) (Nat.le_of_ble_eq_true rfl) (Nat.le_refl _) (Nat.le_refl _) dX6_send_6 (q_L.deep (by decide) (kX6_raise (Q := fun r S' => r = none ∧ S' = r8) w e9 ⟨rfl, rfl⟩)) (q_kV ?_)
    have fx10 : q_Fx S r8 := q_Fx.tr (q_Fx.rf S) (fxX6_raise e9)
    refine q_goto 42 (by decide) dX6_send_9 ?_
    obtain rfl := Option.some.inj h
    exact q_vret rfl dX6_send_42 hQ
set_option maxRecDepth 20000 in
theorem kX6_raiseObject {S : QS} {g : QG} {Q : Option Value → QS → Prop}  {x1 : Int32} {r : QS} (w : q_Wire S) (h : fX6_raiseObject S x1 = some r) (hQ : Q none r) : q_M g mX6_raiseObject 4 0 0 [.ref 89, .int x1] S Q := by
  unfold fX6_raiseObject at h
  show q_L g mX6_raiseObject 4 0 0 Q 0 0 0 [(0, .ref 89), (1, .int x1)] [] S
  refine q_iload_n 1 rfl rfl dX6_raiseObject_0 ?_
  refine q_if_ne 12 (by decide) dX6_raiseObject_1 (fun c => ?_) (fun c => ?_)
  · rw [if_neg c] at h
    refine q_aload_n 0 rfl rfl dX6_raiseObject_12 ?_
    refine q_iload_n 1 rfl rfl dX6_raiseObject_13 ?_
    refine q_putI (q_sh89 w) (by decide) (by decide) rfl rfl ⟨rfl, rfl⟩ lfX6_74 dX6_raiseObject_14 ?_
    obtain ⟨S1, e2, h⟩ := q_bindS h
    refine q_st e2 ?_
    have fx3 : q_Fx S S1 := e2 ▸ q_Fx.sI (q_Fx.rf S)
    obtain rfl := Option.some.inj h
    exact q_vret rfl dX6_raiseObject_17 hQ
  · rw [if_pos c] at h
    refine q_aload_n 0 rfl rfl dX6_raiseObject_4 ?_
    refine q_iconst (v := (2 : Int32)) (by decide) dX6_raiseObject_5 ?_
    obtain ⟨r4, e5, h⟩ := q_bind h
    refine q_callV (ci := 6) (d := 3) (Mc := mX6_raise) (kc := 0) (nc := 0) [.int (2 : Int32)] okX6_raise (q_sh89 w) (by decide) rfl lmX6_178 inX6_raise seX6_raise rfl (Nat.le_of_ble_eq_true rfl) (Nat.le_of_ble_eq_true rfl) (Nat.le_refl _) (Nat.le_refl _) dX6_raiseObject_6 (q_L.deep (by decide) (kX6_raise (Q := fun r S' => r = none ∧ S' = r4) w e5 ⟨rfl, rfl⟩)) (q_kV ?_)
    have fx6 : q_Fx S r4 := q_Fx.tr (q_Fx.rf S) (fxX6_raise e5)
    refine q_goto 17 (by decide) dX6_raiseObject_9 ?_
    obtain rfl := Option.some.inj h
    exact q_vret rfl dX6_raiseObject_17 hQ
set_option maxRecDepth 20000 in
theorem kX6_write {S : QS} {g : QG} {Q : Option Value → QS → Prop}  {x1 : Int32} {r : QS} (w : q_Wire S) (h : fX6_write S x1 = some r) (hQ : Q none r) : q_M g mX6_write 0 0 0 [.ref 89, .int x1] S Q := by
  unfold fX6_write at h
  show q_L g mX6_write 0 0 0 Q 0 0 0 [(0, .ref 89), (1, .int x1)] [] S
  refine q_aload_n 0 rfl rfl dX6_write_0 ?_
  refine q_getI (q_sh89 w) (by decide) (by decide) rfl lfX6_65 dX6_write_1 ?_
  refine q_sipush (v := (256 : Int32)) (by decide) dX6_write_4 ?_
  obtain ⟨v5, hv, h⟩ := q_bind h
  have fx6 : q_Fx S v5 := by
    replace h := hv
    by_cases c : (256 : Int32) ≤ (S.2.1 89 14)
    · rw [if_pos c] at h
      obtain rfl := Option.some.inj h
      exact q_Fx.rf _
    · rw [if_neg c] at h
      obtain ⟨hg1, h⟩ := q_guard h
      obtain ⟨S2, e3, h⟩ := q_bindS h
      have fx4 : q_Fx S S2 := e3 ▸ q_Fx.sI (q_Fx.rf S)
      obtain rfl := Option.some.inj h
      exact fx4
  have K1 : q_L g mX6_write 0 0 0 Q 0 0 20 [(0, .ref 89)] [] v5 := by
    refine q_aload_n 0 rfl rfl dX6_write_20 ?_
    refine q_dup rfl dX6_write_21 ?_
    refine q_getI (q_sh89 (w.fx fx6)) (by decide) (by decide) rfl lfX6_65 dX6_write_22 ?_
    refine q_iconst (v := (1 : Int32)) (by decide) dX6_write_25 ?_
    refine q_iadd dX6_write_26 ?_
    refine q_putI (q_sh89 (w.fx fx6)) (by decide) (by decide) rfl rfl ⟨rfl, rfl⟩ lfX6_65 dX6_write_27 ?_
    obtain ⟨S7, e8, h⟩ := q_bindS h
    refine q_st e8 ?_
    have fx9 : q_Fx S S7 := e8 ▸ q_Fx.sI (fx6)
    obtain rfl := Option.some.inj h
    exact q_vret rfl dX6_write_30 hQ
  replace h := hv
  refine q_icmp_ge 20 (by decide) dX6_write_7 (fun c => ?_) (fun c => ?_)
  · rw [if_pos c] at h
    obtain rfl := Option.some.inj h
    refine q_sub [0] rfl ?_
    exact K1
  · rw [if_neg c] at h
    refine q_aload_n 0 rfl rfl dX6_write_10 ?_
    refine q_getR (q_sh89 w) (by decide) (by decide) rfl lfX6_35 dX6_write_11 (r := 101) (q_wr89_13 w) ?_
    refine q_aload_n 0 rfl rfl dX6_write_14 ?_
    refine q_getI (q_sh89 w) (by decide) (by decide) rfl lfX6_65 dX6_write_15 ?_
    refine q_iload_n 1 rfl rfl dX6_write_18 ?_
    obtain ⟨hg1, h⟩ := q_guard h
    refine q_iast (q_sh101 w) (q_inb_in hg1) dX6_write_19 ?_
    obtain ⟨S2, e3, h⟩ := q_bindS h
    refine q_st e3 ?_
    have fx4 : q_Fx S S2 := e3 ▸ q_Fx.sI (q_Fx.rf S)
    obtain rfl := Option.some.inj h
    refine q_sub [0] rfl ?_
    exact K1
set_option maxRecDepth 20000 in
theorem kX6_leave {S : QS} {g : QG} {Q : Option Value → QS → Prop}  {x1 : Bool} {r : QS} (w : q_Wire S) (h : fX6_leave S x1 = some r) (hQ : Q none r) : q_M g mX6_leave 1 0 0 [.ref 89, .int (q_b x1)] S Q := by
  unfold fX6_leave at h
  show q_L g mX6_leave 1 0 0 Q 0 0 0 [(0, .ref 89), (1, .int (q_b x1))] [] S
  refine q_aload_n 0 rfl rfl dX6_leave_0 ?_
  refine q_getI (q_sh89 w) (by decide) (by decide) rfl lfX6_77 dX6_leave_1 ?_
  refine q_if_ne 13 (by decide) dX6_leave_4 (fun c => ?_) (fun c => ?_)
  · rw [if_neg c] at h
    refine q_aload_n 0 rfl rfl dX6_leave_13 ?_
    obtain ⟨r1, e2, h⟩ := q_bind h
    refine q_callV (ci := 6) (d := 0) (Mc := mX6_top) (kc := 0) (nc := 0) [] okX6_top (q_sh89 w) (by decide) rfl lmX6_138 inX6_top seX6_top rfl (Nat.le_of_ble_eq_true rfl) (Nat.le_of_ble_eq_true rfl) (Nat.le_refl _) (Nat.le_refl _) dX6_leave_14 (q_L.deep (by decide) (kX6_top (Q := fun r S' => r = some (.int r1) ∧ S' = S) w e2 ⟨rfl, rfl⟩)) (q_kI ?_)
    refine q_iconst (v := (1 : Int32)) (by decide) dX6_leave_17 ?_
    refine q_isub dX6_leave_18 ?_
    refine q_istore_n [(2, .int (r1 - (1 : Int32))), (0, .ref 89), (1, .int (q_b x1))] rfl (by decide) rfl dX6_leave_19 ?_
    refine q_aload_n 1 rfl rfl dX6_leave_20 ?_
    refine q_dup rfl dX6_leave_21 ?_
    refine q_getI (q_sh89 w) (by decide) (by decide) rfl lfX6_77 dX6_leave_22 ?_
    refine q_iconst (v := (1 : Int32)) (by decide) dX6_leave_25 ?_
    refine q_isub dX6_leave_26 ?_
    refine q_putI (q_sh89 w) (by decide) (by decide) rfl rfl ⟨rfl, rfl⟩ lfX6_77 dX6_leave_27 ?_
    obtain ⟨S3, e4, h⟩ := q_bindS h
    refine q_st e4 ?_
    have fx5 : q_Fx S S3 := e4 ▸ q_Fx.sI (q_Fx.rf S)
    refine q_iload_n 2 rfl rfl dX6_leave_30 ?_
    refine q_if_eq 50 (by decide) dX6_leave_31 (fun c => ?_) (fun c => ?_)
    · have c := q_b_0.mp c; rw [q_if0 c] at h
      obtain rfl := Option.some.inj h
      exact q_vret rfl dX6_leave_50 hQ
    · have c := q_b_n.mp c; rw [q_if1 c] at h
      refine q_aload_n 1 rfl rfl dX6_leave_34 ?_
      refine q_aload_n 1 rfl rfl dX6_leave_35 ?_
      refine q_getR (q_sh89 (w.fx fx5)) (by decide) (by decide) rfl lfX6_18 dX6_leave_36 (r := 96) (q_wr89_3 (w.fx fx5)) ?_
      refine q_iload_n 0 rfl rfl dX6_leave_39 ?_
      obtain ⟨hg6, h⟩ := q_guard h
      refine q_iald (q_sh96 (w.fx fx5)) (q_inb_in hg6) dX6_leave_40 ?_
      refine q_aload_n 1 rfl rfl dX6_leave_41 ?_
      refine q_getR (q_sh89 (w.fx fx5)) (by decide) (by decide) rfl lfX6_22 dX6_leave_42 (r := 97) (q_wr89_4 (w.fx fx5)) ?_
      refine q_iload_n 0 rfl rfl dX6_leave_45 ?_
      obtain ⟨hg7, h⟩ := q_guard h
      refine q_bald (q_sh97 (w.fx fx5)) (q_inb_in hg7) dX6_leave_46 ?_
      obtain ⟨r8, e9, h⟩ := q_bind h
      refine q_callV (ci := 6) (d := 0) (Mc := mX6_push) (kc := 0) (nc := 0) [.int (S3.2.1 96 (r1 - (1 : Int32)).toNatClampNeg), .int (S3.2.1 97 (r1 - (1 : Int32)).toNatClampNeg)] okX6_push (q_sh89 (w.fx fx5)) (by decide) rfl lmX6_160 inX6_push seX6_push rfl (Nat.le_of_ble_eq_true rfl) (Nat.le_of_ble_eq_true rfl) (Nat.le_refl _) (Nat.le_refl _) dX6_leave_47 (q_L.deep (by decide) (kX6_push (Q := fun r S' => r = none ∧ S' = r8) (w.fx fx5) e9 ⟨rfl, rfl⟩)) (q_kV ?_)
      have fx10 : q_Fx S r8 := q_Fx.tr (fx5) (fxX6_push e9)
      obtain rfl := Option.some.inj h
      exact q_vret rfl dX6_leave_50 hQ
  · rw [if_pos c] at h
    refine q_aload_n 0 rfl rfl dX6_leave_7 ?_
    refine q_iconst (v := (0 : Int32)) (by decide) dX6_leave_8 ?_
    refine q_putI (q_sh89 w) (by decide) (by decide) rfl rfl ⟨rfl, rfl⟩ lfX6_71 dX6_leave_9 ?_
    obtain ⟨S11, e12, h⟩ := q_bindS h
    refine q_st e12 ?_
    have fx13 : q_Fx S S11 := e12 ▸ q_Fx.sI (q_Fx.rf S)
    obtain rfl := Option.some.inj h
    exact q_vret rfl dX6_leave_12 hQ
