set_option maxRecDepth 20000 in
theorem sX12_linesOf_131 {g : QG} {Q : Option Value → QS → Prop} {q : Nat} {y2 : Int32} {y6 : Int32} {x : Int32 × QS} {z : (Bool × QS) ⊕ (Int32 × QS)} (w : q_Wire x.2) (hq : q_qok q) (h : tX12_linesOf_131 q y2 y6 x = some z) (hQ : (Sum.elim (fun r0 : Bool × QS => Q (some (.int (q_b r0.1))) r0.2) (fun y : Int32 × QS => q_L g mX12_linesOf 9 0 0 Q 0 0 131 [(0, .ref 102), (1, .ref q), (2, .int y2), (5, .int y.1), (6, .int y6)] [] y.2) z)) : q_L g mX12_linesOf 9 0 0 Q 0 0 131 [(0, .ref 102), (1, .ref q), (2, .int y2), (5, .int x.1), (6, .int y6)] [] x.2 := by
  unfold tX12_linesOf_131 at h
  refine q_aload_n 0 rfl rfl dX12_linesOf_131 ?_
  refine q_iload 3 rfl dX12_linesOf_132 ?_
  refine q_ldcS (j := 32) (r := 1000064) rfl rfl dX12_linesOf_134 ?_
  obtain ⟨r1, e2, h⟩ := q_bind h
  refine q_callV (ci := 12) (d := 8) (Mc := mX12_is) (kc := 0) (nc := 0) [.int x.1, .ref 1000064] okX12_is (q_sh102 w) (by decide) rfl lmX12_163 inX12_is seX12_is rfl (Nat.le_of_ble_eq_true rfl) (Nat.le_of_ble_eq_true rfl) (Nat.le_refl _) (Nat.le_refl _) dX12_linesOf_136 (q_L.deep (by decide) (kX12_is (Q := fun r S' => r = some (.int (q_b r1)) ∧ S' = x.2) w e2 ⟨rfl, rfl⟩)) (q_kI ?_)
  refine q_if_ne 238 (by decide) dX12_linesOf_139 (fun c => ?_) (fun c => ?_)
  · have c := q_b_n.mp c; rw [q_if1 c] at h
    refine q_iload 4 rfl dX12_linesOf_238 ?_
    refine q_aload_n 1 rfl rfl dX12_linesOf_240 ?_
    refine q_getR (q_shQ0 w hq) (by decide) (by decide) rfl lfX12_331 dX12_linesOf_241 (r := (q + 12)) (q_wrQ0_18 w hq) ?_
    refine q_iload_n 2 rfl rfl dX12_linesOf_244 ?_
    obtain ⟨hg3, h⟩ := q_guard h
    refine q_iald (q_shQ12 w hq) (q_inb_in hg3) dX12_linesOf_245 ?_
    obtain ⟨v4, hv, h⟩ := q_bind h
    have K1 : q_L g mX12_linesOf 9 0 0 Q 0 0 254 [(0, .ref 102), (1, .ref q), (5, .int x.1), (6, .int y6)] [.int (q_b v4)] x.2 := by
      refine q_istore [(7, .int (q_b v4)), (0, .ref 102), (1, .ref q), (5, .int x.1), (6, .int y6)] (by decide) rfl dX12_linesOf_254 ?_
      refine q_iload 0 rfl dX12_linesOf_256 ?_
      obtain ⟨v7, hv, h⟩ := q_bind h
      have K2 : q_L g mX12_linesOf 9 0 0 Q 0 0 307 [(0, .ref 102), (5, .int x.1), (7, .int (q_b v7))] [] x.2 := by
        refine q_iload 2 rfl dX12_linesOf_307 ?_
        refine q_if_ne 321 (by decide) dX12_linesOf_309 (fun c => ?_) (fun c => ?_)
        · have c := q_b_n.mp c; rw [q_if1 c] at h
          refine q_iconst (v := (1 : Int32)) (by decide) dX12_linesOf_321 ?_
          refine q_goto 326 (by decide) dX12_linesOf_322 ?_
          cases h
          exact q_iret rfl (by decide) dX12_linesOf_326 hQ
        · have c := q_b_0.mp c; rw [q_if0 c] at h
          refine q_aload_n 0 rfl rfl dX12_linesOf_312 ?_
          refine q_iload 1 rfl dX12_linesOf_313 ?_
          obtain ⟨r8, e9, h⟩ := q_bind h
          refine q_callV (ci := 12) (d := 8) (Mc := mX12_wrong) (kc := 0) (nc := 0) [.int x.1] okX12_wrong (q_sh102 w) (by decide) rfl lmX12_254 inX12_wrong seX12_wrong rfl (Nat.le_of_ble_eq_true rfl) (Nat.le_of_ble_eq_true rfl) (Nat.le_refl _) (Nat.le_refl _) dX12_linesOf_315 (q_L.deep (by decide) (kX12_wrong (Q := fun r S' => r = some (.int (q_b r8.1)) ∧ S' = r8.2) w e9 ⟨rfl, rfl⟩)) (q_kI ?_)
          have fx10 : q_Fx x.2 r8.2 := q_Fx.tr (q_Fx.rf x.2) (fxX12_wrong e9)
          refine q_if_eq 325 (by decide) dX12_linesOf_318 (fun c => ?_) (fun c => ?_)
          · have c := q_b_0.mp c; rw [q_if0 c] at h
            refine q_iconst (v := (0 : Int32)) (by decide) dX12_linesOf_325 ?_
            cases h
            exact q_iret rfl (by decide) dX12_linesOf_326 hQ
          · have c := q_b_n.mp c; rw [q_if1 c] at h
            refine q_iconst (v := (1 : Int32)) (by decide) dX12_linesOf_321 ?_
            refine q_goto 326 (by decide) dX12_linesOf_322 ?_
            cases h
            exact q_iret rfl (by decide) dX12_linesOf_326 hQ
      replace h := hv
      refine q_if_eq 307 (by decide) dX12_linesOf_258 (fun c => ?_) (fun c => ?_)
      · have c := q_b_0.mp c; rw [q_if0 c] at h
        obtain rfl := Option.some.inj h
        refine q_sub [1, 3, 0] rfl ?_
        exact K2
      · have c := q_b_n.mp c; rw [q_if1 c] at h
        refine q_aload_n 2 rfl rfl dX12_linesOf_261 ?_
        refine q_getR (q_shQ0 w hq) (by decide) (by decide) rfl lfX12_353 dX12_linesOf_262 (r := (q + 15)) (q_wrQ0_21 w hq) ?_
        refine q_iload 4 rfl dX12_linesOf_265 ?_
        refine q_iconst (v := (1 : Int32)) (by decide) dX12_linesOf_267 ?_
        refine q_isub dX12_linesOf_268 ?_
        obtain ⟨hg5, h⟩ := q_guard h
        refine q_iald (q_shQ15 w hq) (q_inb_in hg5) dX12_linesOf_269 ?_
        refine q_istore [(8, .int (x.2.2.1 (q + 15) (y6 - (1 : Int32)).toNatClampNeg)), (7, .int (q_b v4)), (0, .ref 102), (1, .ref q), (5, .int x.1), (6, .int y6)] (by decide) rfl dX12_linesOf_270 ?_
        refine q_iload 0 rfl dX12_linesOf_272 ?_
        refine q_bipush (v := (19 : Int32)) (by decide) dX12_linesOf_274 ?_
        obtain ⟨v6, hv, h⟩ := q_bind h
        have K3 : q_L g mX12_linesOf 9 0 0 Q 0 0 305 [(0, .ref 102), (5, .int x.1)] [.int (q_b v6)] x.2 := by
          refine q_istore [(7, .int (q_b v6)), (0, .ref 102), (5, .int x.1)] (by decide) rfl dX12_linesOf_305 ?_
          obtain rfl := Option.some.inj h
          refine q_sub [1, 2, 0] rfl ?_
          exact K2
        replace h := hv
        refine q_icmp_eq 300 (by decide) dX12_linesOf_276 (fun c => ?_) (fun c => ?_)
        · rw [if_pos c] at h
          refine q_iconst (v := (1 : Int32)) (by decide) dX12_linesOf_300 ?_
          refine q_goto 305 (by decide) dX12_linesOf_301 ?_
          obtain rfl := Option.some.inj h
          refine q_sub [2, 4] rfl ?_
          exact K3
        · rw [if_neg c] at h
          refine q_iload 0 rfl dX12_linesOf_279 ?_
          refine q_bipush (v := (41 : Int32)) (by decide) dX12_linesOf_281 ?_
          refine q_icmp_eq 300 (by decide) dX12_linesOf_283 (fun c => ?_) (fun c => ?_)
          · rw [if_pos c] at h
            refine q_iconst (v := (1 : Int32)) (by decide) dX12_linesOf_300 ?_
            refine q_goto 305 (by decide) dX12_linesOf_301 ?_
            obtain rfl := Option.some.inj h
            refine q_sub [2, 4] rfl ?_
            exact K3
          · rw [if_neg c] at h
            refine q_iload 0 rfl dX12_linesOf_286 ?_
            refine q_bipush (v := (42 : Int32)) (by decide) dX12_linesOf_288 ?_
            refine q_icmp_eq 300 (by decide) dX12_linesOf_290 (fun c => ?_) (fun c => ?_)
            · rw [if_pos c] at h
              refine q_iconst (v := (1 : Int32)) (by decide) dX12_linesOf_300 ?_
              refine q_goto 305 (by decide) dX12_linesOf_301 ?_
              obtain rfl := Option.some.inj h
              refine q_sub [2, 4] rfl ?_
              exact K3
            · rw [if_neg c] at h
              refine q_iload 0 rfl dX12_linesOf_293 ?_
              refine q_bipush (v := (43 : Int32)) (by decide) dX12_linesOf_295 ?_
              refine q_icmp_ne 304 (by decide) dX12_linesOf_297 (fun c => ?_) (fun c => ?_)
              · rw [if_neg c] at h
                refine q_iconst (v := (0 : Int32)) (by decide) dX12_linesOf_304 ?_
                obtain rfl := Option.some.inj h
                refine q_sub [2, 4] rfl ?_
                exact K3
              · rw [if_pos c] at h
                refine q_iconst (v := (1 : Int32)) (by decide) dX12_linesOf_300 ?_
                refine q_goto 305 (by decide) dX12_linesOf_301 ?_
                obtain rfl := Option.some.inj h
                refine q_sub [2, 4] rfl ?_
                exact K3
    replace h := hv
    refine q_icmp_le 253 (by decide) dX12_linesOf_246 (fun c => ?_) (fun c => ?_)
    · rw [if_pos c] at h
      refine q_iconst (v := (0 : Int32)) (by decide) dX12_linesOf_253 ?_
      obtain rfl := Option.some.inj h
      refine q_sub [0, 1, 3, 4] rfl ?_
      exact K1
    · rw [if_neg c] at h
      refine q_iconst (v := (1 : Int32)) (by decide) dX12_linesOf_249 ?_
      refine q_goto 254 (by decide) dX12_linesOf_250 ?_
      obtain rfl := Option.some.inj h
      refine q_sub [0, 1, 3, 4] rfl ?_
      exact K1
  · have c := q_b_0.mp c; rw [q_if0 c] at h
    refine q_aload_n 0 rfl rfl dX12_linesOf_142 ?_
    refine q_iload 3 rfl dX12_linesOf_143 ?_
    obtain ⟨r11, e12, h⟩ := q_bind h
    refine q_callV (ci := 12) (d := 8) (Mc := mX12_isLabel) (kc := 0) (nc := 0) [.int x.1] okX12_isLabel (q_sh102 w) (by decide) rfl lmX12_216 inX12_isLabel seX12_isLabel rfl (Nat.le_of_ble_eq_true rfl) (Nat.le_of_ble_eq_true rfl) (Nat.le_refl _) (Nat.le_refl _) dX12_linesOf_145 (q_L.deep (by decide) (kX12_isLabel (Q := fun r S' => r = some (.int (q_b r11)) ∧ S' = x.2) w e12 ⟨rfl, rfl⟩)) (q_kI ?_)
    refine q_if_eq 183 (by decide) dX12_linesOf_148 (fun c => ?_) (fun c => ?_)
    · have c := q_b_0.mp c; rw [q_if0 c] at h
      refine q_aload_n 0 rfl rfl dX12_linesOf_183 ?_
      refine q_iload 3 rfl dX12_linesOf_184 ?_
      refine q_ldcS (j := 40) (r := 1000080) rfl rfl dX12_linesOf_186 ?_
      obtain ⟨r13, e14, h⟩ := q_bind h
      refine q_callV (ci := 12) (d := 8) (Mc := mX12_is) (kc := 0) (nc := 0) [.int x.1, .ref 1000080] okX12_is (q_sh102 w) (by decide) rfl lmX12_163 inX12_is seX12_is rfl (Nat.le_of_ble_eq_true rfl) (Nat.le_of_ble_eq_true rfl) (Nat.le_refl _) (Nat.le_refl _) dX12_linesOf_188 (q_L.deep (by decide) (kX12_is (Q := fun r S' => r = some (.int (q_b r13)) ∧ S' = x.2) w e14 ⟨rfl, rfl⟩)) (q_kI ?_)
      refine q_if_eq 209 (by decide) dX12_linesOf_191 (fun c => ?_) (fun c => ?_)
      · have c := q_b_0.mp c; rw [q_if0 c] at h
        refine q_aload_n 0 rfl rfl dX12_linesOf_209 ?_
        refine q_aload_n 1 rfl rfl dX12_linesOf_210 ?_
        refine q_iload_n 2 rfl rfl dX12_linesOf_211 ?_
        refine q_iload 3 rfl dX12_linesOf_212 ?_
        refine q_iload 4 rfl dX12_linesOf_214 ?_
        obtain ⟨r15, e16, h⟩ := q_bind h
        refine q_callV (ci := 12) (d := 8) (Mc := mX12_code) (kc := 0) (nc := 0) [.ref q, .int y2, .int x.1, .int y6] okX12_code (q_sh102 w) (by decide) rfl lmX12_350 inX12_code seX12_code rfl (Nat.le_of_ble_eq_true rfl) (Nat.le_of_ble_eq_true rfl) (Nat.le_refl _) (Nat.le_refl _) dX12_linesOf_216 (q_L.deep (by decide) (kX12_code (Q := fun r S' => r = some (.int (q_b r15.1)) ∧ S' = r15.2) w hq e16 ⟨rfl, rfl⟩)) (q_kI ?_)
        have fx17 : q_Fx x.2 r15.2 := q_Fx.tr (q_Fx.rf x.2) (fxX12_code e16)
        refine q_if_ne 224 (by decide) dX12_linesOf_219 (fun c => ?_) (fun c => ?_)
        · have c := q_b_n.mp c; rw [q_if1 c] at h
          refine q_iload 3 rfl dX12_linesOf_224 ?_
          refine q_aload_n 0 rfl rfl dX12_linesOf_226 ?_
          refine q_iload 3 rfl dX12_linesOf_227 ?_
          obtain ⟨r18, e19, h⟩ := q_bind h
          refine q_callV (ci := 12) (d := 8) (Mc := mX12_lineLength) (kc := 0) (nc := 0) [.int x.1] okX12_lineLength (q_sh102 (w.fx fx17)) (by decide) rfl lmX12_337 inX12_lineLength seX12_lineLength rfl (Nat.le_of_ble_eq_true rfl) (Nat.le_of_ble_eq_true rfl) (Nat.le_refl _) (Nat.le_refl _) dX12_linesOf_229 (q_L.deep (by decide) (kX12_lineLength (Q := fun r S' => r = some (.int r18) ∧ S' = r15.2) (w.fx fx17) e19 ⟨rfl, rfl⟩)) (q_kI ?_)
          refine q_iadd dX12_linesOf_232 ?_
          refine q_istore [(5, .int (x.1 + r18)), (0, .ref 102), (1, .ref q), (2, .int y2), (6, .int y6)] (by decide) rfl dX12_linesOf_233 ?_
          refine q_goto 131 (by decide) dX12_linesOf_235 ?_
          refine q_sub [1, 2, 3, 0, 4] rfl ?_
          cases h
          exact hQ
        · have c := q_b_0.mp c; rw [q_if0 c] at h
          refine q_iconst (v := (0 : Int32)) (by decide) dX12_linesOf_222 ?_
          cases h
          exact q_iret rfl (by decide) dX12_linesOf_223 hQ
      · have c := q_b_n.mp c; rw [q_if1 c] at h
        refine q_aload_n 0 rfl rfl dX12_linesOf_194 ?_
        refine q_aload_n 1 rfl rfl dX12_linesOf_195 ?_
        refine q_iload_n 2 rfl rfl dX12_linesOf_196 ?_
        refine q_iload 3 rfl dX12_linesOf_197 ?_
        refine q_iload 4 rfl dX12_linesOf_199 ?_
        obtain ⟨r20, e21, h⟩ := q_bind h
        refine q_callV (ci := 12) (d := 8) (Mc := mX12_catchLine) (kc := 0) (nc := 0) [.ref q, .int y2, .int x.1, .int y6] okX12_catchLine (q_sh102 w) (by decide) rfl lmX12_346 inX12_catchLine seX12_catchLine rfl (Nat.le_of_ble_eq_true rfl) (Nat.le_of_ble_eq_true rfl) (Nat.le_refl _) (Nat.le_refl _) dX12_linesOf_201 (q_L.deep (by decide) (kX12_catchLine (Q := fun r S' => r = some (.int (q_b r20.1)) ∧ S' = r20.2) w hq e21 ⟨rfl, rfl⟩)) (q_kI ?_)
        have fx22 : q_Fx x.2 r20.2 := q_Fx.tr (q_Fx.rf x.2) (fxX12_catchLine e21)
        refine q_if_ne 224 (by decide) dX12_linesOf_204 (fun c => ?_) (fun c => ?_)
        · have c := q_b_n.mp c; rw [q_if1 c] at h
          refine q_iload 3 rfl dX12_linesOf_224 ?_
          refine q_aload_n 0 rfl rfl dX12_linesOf_226 ?_
          refine q_iload 3 rfl dX12_linesOf_227 ?_
          obtain ⟨r23, e24, h⟩ := q_bind h
          refine q_callV (ci := 12) (d := 8) (Mc := mX12_lineLength) (kc := 0) (nc := 0) [.int x.1] okX12_lineLength (q_sh102 (w.fx fx22)) (by decide) rfl lmX12_337 inX12_lineLength seX12_lineLength rfl (Nat.le_of_ble_eq_true rfl) (Nat.le_of_ble_eq_true rfl) (Nat.le_refl _) (Nat.le_refl _) dX12_linesOf_229 (q_L.deep (by decide) (kX12_lineLength (Q := fun r S' => r = some (.int r23) ∧ S' = r20.2) (w.fx fx22) e24 ⟨rfl, rfl⟩)) (q_kI ?_)
          refine q_iadd dX12_linesOf_232 ?_
          refine q_istore [(5, .int (x.1 + r23)), (0, .ref 102), (1, .ref q), (2, .int y2), (6, .int y6)] (by decide) rfl dX12_linesOf_233 ?_
          refine q_goto 131 (by decide) dX12_linesOf_235 ?_
          refine q_sub [1, 2, 3, 0, 4] rfl ?_
          cases h
          exact hQ
        · have c := q_b_0.mp c; rw [q_if0 c] at h
          refine q_iconst (v := (0 : Int32)) (by decide) dX12_linesOf_207 ?_
          cases h
          exact q_iret rfl (by decide) dX12_linesOf_208 hQ
    · have c := q_b_n.mp c; rw [q_if1 c] at h
      refine q_aload_n 0 rfl rfl dX12_linesOf_151 ?_
      refine q_iload 3 rfl dX12_linesOf_152 ?_
      obtain ⟨r25, e26, h⟩ := q_bind h
      refine q_callV (ci := 12) (d := 8) (Mc := mX12_label) (kc := 0) (nc := 0) [.int x.1] okX12_label (q_sh102 w) (by decide) rfl lmX12_343 inX12_label seX12_label rfl (Nat.le_of_ble_eq_true rfl) (Nat.le_of_ble_eq_true rfl) (Nat.le_refl _) (Nat.le_refl _) dX12_linesOf_154 (q_L.deep (by decide) (kX12_label (Q := fun r S' => r = some (.int r25) ∧ S' = x.2) w e26 ⟨rfl, rfl⟩)) (q_kI ?_)
      refine q_if_lt 176 (by decide) dX12_linesOf_157 (fun c => ?_) (fun c => ?_)
      · rw [if_pos c] at h
        refine q_aload_n 0 rfl rfl dX12_linesOf_176 ?_
        refine q_iload 3 rfl dX12_linesOf_177 ?_
        obtain ⟨r27, e28, h⟩ := q_bind h
        refine q_callV (ci := 12) (d := 8) (Mc := mX12_wrong) (kc := 0) (nc := 0) [.int x.1] okX12_wrong (q_sh102 w) (by decide) rfl lmX12_254 inX12_wrong seX12_wrong rfl (Nat.le_of_ble_eq_true rfl) (Nat.le_of_ble_eq_true rfl) (Nat.le_refl _) (Nat.le_refl _) dX12_linesOf_179 (q_L.deep (by decide) (kX12_wrong (Q := fun r S' => r = some (.int (q_b r27.1)) ∧ S' = r27.2) w e28 ⟨rfl, rfl⟩)) (q_kI ?_)
        have fx29 : q_Fx x.2 r27.2 := q_Fx.tr (q_Fx.rf x.2) (fxX12_wrong e28)
        cases h
        exact q_iret rfl (q_b_nar _) dX12_linesOf_182 hQ
      · rw [if_neg c] at h
        refine q_aload_n 0 rfl rfl dX12_linesOf_160 ?_
        refine q_getR (q_sh102 w) (by decide) (by decide) rfl lfX12_49 dX12_linesOf_161 (r := 167) (q_wr102_17 w) ?_
        refine q_aload_n 0 rfl rfl dX12_linesOf_164 ?_
        refine q_iload 3 rfl dX12_linesOf_165 ?_
        obtain ⟨r30, e31, h⟩ := q_bind h
        refine q_callV (ci := 12) (d := 8) (Mc := mX12_label) (kc := 0) (nc := 0) [.int x.1] okX12_label (q_sh102 w) (by decide) rfl lmX12_343 inX12_label seX12_label rfl (Nat.le_of_ble_eq_true rfl) (Nat.le_of_ble_eq_true rfl) (Nat.le_refl _) (Nat.le_refl _) dX12_linesOf_167 (q_L.deep (by decide) (kX12_label (Q := fun r S' => r = some (.int r30) ∧ S' = x.2) w e31 ⟨rfl, rfl⟩)) (q_kI ?_)
        obtain ⟨hg32, h⟩ := q_guard h
        refine q_iald (q_sh167 w) (q_inb_in hg32) dX12_linesOf_170 ?_
        refine q_iload 3 rfl dX12_linesOf_171 ?_
        refine q_icmp_eq 224 (by decide) dX12_linesOf_173 (fun c => ?_) (fun c => ?_)
        · rw [if_pos c] at h
          refine q_iload 3 rfl dX12_linesOf_224 ?_
          refine q_aload_n 0 rfl rfl dX12_linesOf_226 ?_
          refine q_iload 3 rfl dX12_linesOf_227 ?_
          obtain ⟨r33, e34, h⟩ := q_bind h
          refine q_callV (ci := 12) (d := 8) (Mc := mX12_lineLength) (kc := 0) (nc := 0) [.int x.1] okX12_lineLength (q_sh102 w) (by decide) rfl lmX12_337 inX12_lineLength seX12_lineLength rfl (Nat.le_of_ble_eq_true rfl) (Nat.le_of_ble_eq_true rfl) (Nat.le_refl _) (Nat.le_refl _) dX12_linesOf_229 (q_L.deep (by decide) (kX12_lineLength (Q := fun r S' => r = some (.int r33) ∧ S' = x.2) w e34 ⟨rfl, rfl⟩)) (q_kI ?_)
          refine q_iadd dX12_linesOf_232 ?_
          refine q_istore [(5, .int (x.1 + r33)), (0, .ref 102), (1, .ref q), (2, .int y2), (6, .int y6)] (by decide) rfl dX12_linesOf_233 ?_
          refine q_goto 131 (by decide) dX12_linesOf_235 ?_
          refine q_sub [1, 2, 3, 0, 4] rfl ?_
          cases h
          exact hQ
        · rw [if_neg c] at h
          refine q_aload_n 0 rfl rfl dX12_linesOf_176 ?_
          refine q_iload 3 rfl dX12_linesOf_177 ?_
          obtain ⟨r35, e36, h⟩ := q_bind h
          refine q_callV (ci := 12) (d := 8) (Mc := mX12_wrong) (kc := 0) (nc := 0) [.int x.1] okX12_wrong (q_sh102 w) (by decide) rfl lmX12_254 inX12_wrong seX12_wrong rfl (Nat.le_of_ble_eq_true rfl) (Nat.le_of_ble_eq_true rfl) (Nat.le_refl _) (Nat.le_refl _) dX12_linesOf_179 (q_L.deep (by decide) (kX12_wrong (Q := fun r S' => r = some (.int (q_b r35.1)) ∧ S' = r35.2) w e36 ⟨rfl, rfl⟩)) (q_kI ?_)
          have fx37 : q_Fx x.2 r35.2 := q_Fx.tr (q_Fx.rf x.2) (fxX12_wrong e36)
          cases h
          exact q_iret rfl (q_b_nar _) dX12_linesOf_182 hQ
theorem lX12_linesOf_131 {g : QG} {Q : Option Value → QS → Prop} {q : Nat} {y2 : Int32} {y6 : Int32} {r : Bool × QS} (hq : q_qok q) (hQ : Q (some (.int (q_b r.1))) r.2) : ∀ (c : Nat) (x : Int32 × QS), q_Wire x.2 → q_it (tX12_linesOf_131 q y2 y6) c x = some r → q_L g mX12_linesOf 9 0 0 Q 0 0 131 [(0, .ref 102), (1, .ref q), (2, .int y2), (5, .int x.1), (6, .int y6)] [] x.2 := by
  intro c
  induction c with
  | zero => intro x w h; cases h
  | succ c ih =>
    intro x w h
    simp only [q_it] at h
    cases hz : tX12_linesOf_131 q y2 y6 x with
    | none => rw [hz] at h; cases h
    | some z =>
      rw [hz] at h
      refine sX12_linesOf_131 w hq hz ?_
      rcases z with z | y
      · cases h; exact hQ
      · have fz := fxtX12_linesOf_131 hz; exact ih y (w.fx fz) h
theorem kX12_linesOf_131 {S : QS} {g : QG} {Q : Option Value → QS → Prop} {q : Nat} {y2 : Int32} {y5 : Int32} {y6 : Int32} {r : Bool × QS} (w : q_Wire S) (hq : q_qok q) (h : fX12_linesOf_131 S q y2 y5 y6 = some r) (hQ : Q (some (.int (q_b r.1))) r.2) : q_L g mX12_linesOf 9 0 0 Q 0 0 131 [(0, .ref 102), (1, .ref q), (2, .int y2), (5, .int y5), (6, .int y6)] [] S := by
  obtain ⟨c, hc⟩ := q_run_it h
  exact lX12_linesOf_131 hq hQ c (y5, S) w hc
set_option maxRecDepth 20000 in
theorem sX12_linesOf_33 {g : QG} {Q : Option Value → QS → Prop} {q : Nat} {y2 : Int32} {y3 : Int32} {x : Int32 × Int32 × QS} {z : (Bool × QS) ⊕ (Int32 × Int32 × QS)} (w : q_Wire x.2.2) (hq : q_qok q) (h : tX12_linesOf_33 q y2 y3 x = some z) (hQ : (Sum.elim (fun r0 : Bool × QS => Q (some (.int (q_b r0.1))) r0.2) (fun y : Int32 × Int32 × QS => q_L g mX12_linesOf 9 0 0 Q 0 0 33 [(0, .ref 102), (1, .ref q), (2, .int y2), (3, .int y3), (4, .int y.1), (5, .int y.2.1)] [] y.2.2) z)) : q_L g mX12_linesOf 9 0 0 Q 0 0 33 [(0, .ref 102), (1, .ref q), (2, .int y2), (3, .int y3), (4, .int x.1), (5, .int x.2.1)] [] x.2.2 := by
  unfold tX12_linesOf_33 at h
  refine q_aload_n 0 rfl rfl dX12_linesOf_33 ?_
  refine q_iload 5 rfl dX12_linesOf_34 ?_
  refine q_ldcS (j := 32) (r := 1000064) rfl rfl dX12_linesOf_36 ?_
  obtain ⟨r38, e39, h⟩ := q_bind h
  refine q_callV (ci := 12) (d := 8) (Mc := mX12_is) (kc := 0) (nc := 0) [.int x.2.1, .ref 1000064] okX12_is (q_sh102 w) (by decide) rfl lmX12_163 inX12_is seX12_is rfl (Nat.le_of_ble_eq_true rfl) (Nat.le_of_ble_eq_true rfl) (Nat.le_refl _) (Nat.le_refl _) dX12_linesOf_38 (q_L.deep (by decide) (kX12_is (Q := fun r S' => r = some (.int (q_b r38)) ∧ S' = x.2.2) w e39 ⟨rfl, rfl⟩)) (q_kI ?_)
  refine q_if_ne 116 (by decide) dX12_linesOf_41 (fun c => ?_) (fun c => ?_)
  · have c := q_b_n.mp c; rw [q_if1 c] at h
    refine q_iload 4 rfl dX12_linesOf_116 ?_
    refine q_istore [(6, .int x.1), (0, .ref 102), (1, .ref q), (2, .int y2), (3, .int y3), (4, .int x.1), (5, .int x.2.1)] (by decide) rfl dX12_linesOf_118 ?_
    refine q_aload_n 2 rfl rfl dX12_linesOf_120 ?_
    refine q_getR (q_shQ0 w hq) (by decide) (by decide) rfl lfX12_340 dX12_linesOf_121 (r := (q + 13)) (q_wrQ0_19 w hq) ?_
    refine q_iload_n 3 rfl rfl dX12_linesOf_124 ?_
    refine q_iload 0 rfl dX12_linesOf_125 ?_
    obtain ⟨hg40, h⟩ := q_guard h
    refine q_iast (q_shQ13 w hq) (q_inb_in hg40) dX12_linesOf_127 ?_
    obtain ⟨S41, e42, h⟩ := q_bindS h
    refine q_st e42 ?_
    have fx43 : q_Fx x.2.2 S41 := e42 ▸ q_Fx.sI (q_Fx.rf x.2.2)
    refine q_iload_n 4 rfl rfl dX12_linesOf_128 ?_
    refine q_istore [(5, .int y3), (6, .int x.1), (0, .ref 102), (1, .ref q), (2, .int y2), (3, .int y3), (4, .int x.1)] (by decide) rfl dX12_linesOf_129 ?_
    refine q_sub [2, 3, 4, 0, 1] rfl ?_
    obtain ⟨r44, e45, h⟩ := q_bind h
    cases h
    exact kX12_linesOf_131 (w.fx fx43) hq e45 hQ
  · have c := q_b_0.mp c; rw [q_if0 c] at h
    refine q_aload_n 0 rfl rfl dX12_linesOf_44 ?_
    refine q_iload 5 rfl dX12_linesOf_45 ?_
    obtain ⟨r46, e47, h⟩ := q_bind h
    refine q_callV (ci := 12) (d := 8) (Mc := mX12_isLabel) (kc := 0) (nc := 0) [.int x.2.1] okX12_isLabel (q_sh102 w) (by decide) rfl lmX12_216 inX12_isLabel seX12_isLabel rfl (Nat.le_of_ble_eq_true rfl) (Nat.le_of_ble_eq_true rfl) (Nat.le_refl _) (Nat.le_refl _) dX12_linesOf_47 (q_L.deep (by decide) (kX12_isLabel (Q := fun r S' => r = some (.int (q_b r46)) ∧ S' = x.2.2) w e47 ⟨rfl, rfl⟩)) (q_kI ?_)
    obtain ⟨v61, hv, h⟩ := q_bind h
    have fx62 : q_Fx x.2.2 v61.2 := by
      replace h := hv
      by_cases c : r46 = true
      · rw [if_pos c] at h
        obtain ⟨hg50, h⟩ := q_guard h
        obtain ⟨S51, e52, h⟩ := q_bindS h
        have fx53 : q_Fx x.2.2 S51 := e52 ▸ q_Fx.sI (q_Fx.rf x.2.2)
        obtain ⟨hg54, h⟩ := q_guard h
        obtain ⟨S55, e56, h⟩ := q_bindS h
        have fx57 : q_Fx x.2.2 S55 := e56 ▸ q_Fx.sI (fx53)
        obtain ⟨S58, e59, h⟩ := q_bindS h
        have fx60 : q_Fx x.2.2 S58 := e59 ▸ q_Fx.sI (fx57)
        obtain rfl := Option.some.inj h
        exact fx60
      · rw [if_neg c] at h
        obtain ⟨r48, e49, h⟩ := q_bind h
        by_cases c : r48 = true
        · rw [if_pos c] at h
          obtain rfl := Option.some.inj h
          exact q_Fx.rf _
        · rw [if_neg c] at h
          obtain rfl := Option.some.inj h
          exact q_Fx.rf _
    have K4 : q_L g mX12_linesOf 9 0 0 Q 0 0 102 [(0, .ref 102), (1, .ref q), (2, .int y2), (3, .int y3), (4, .int v61.1), (5, .int x.2.1)] [] v61.2 := by
      refine q_iload 5 rfl dX12_linesOf_102 ?_
      refine q_aload_n 0 rfl rfl dX12_linesOf_104 ?_
      refine q_iload 5 rfl dX12_linesOf_105 ?_
      obtain ⟨r63, e64, h⟩ := q_bind h
      refine q_callV (ci := 12) (d := 8) (Mc := mX12_lineLength) (kc := 0) (nc := 0) [.int x.2.1] okX12_lineLength (q_sh102 (w.fx fx62)) (by decide) rfl lmX12_337 inX12_lineLength seX12_lineLength rfl (Nat.le_of_ble_eq_true rfl) (Nat.le_of_ble_eq_true rfl) (Nat.le_refl _) (Nat.le_refl _) dX12_linesOf_107 (q_L.deep (by decide) (kX12_lineLength (Q := fun r S' => r = some (.int r63) ∧ S' = v61.2) (w.fx fx62) e64 ⟨rfl, rfl⟩)) (q_kI ?_)
      refine q_iadd dX12_linesOf_110 ?_
      refine q_istore [(5, .int (x.2.1 + r63)), (0, .ref 102), (1, .ref q), (2, .int y2), (3, .int y3), (4, .int v61.1)] (by decide) rfl dX12_linesOf_111 ?_
      refine q_goto 33 (by decide) dX12_linesOf_113 ?_
      refine q_sub [1, 2, 3, 4, 5, 0] rfl ?_
      cases h
      exact hQ
    replace h := hv
    refine q_if_eq 88 (by decide) dX12_linesOf_50 (fun c => ?_) (fun c => ?_)
    · have c := q_b_0.mp c; rw [q_if0 c] at h
      refine q_aload_n 0 rfl rfl dX12_linesOf_88 ?_
      refine q_iload 5 rfl dX12_linesOf_89 ?_
      refine q_ldcS (j := 40) (r := 1000080) rfl rfl dX12_linesOf_91 ?_
      obtain ⟨r48, e49, h⟩ := q_bind h
      refine q_callV (ci := 12) (d := 8) (Mc := mX12_is) (kc := 0) (nc := 0) [.int x.2.1, .ref 1000080] okX12_is (q_sh102 w) (by decide) rfl lmX12_163 inX12_is seX12_is rfl (Nat.le_of_ble_eq_true rfl) (Nat.le_of_ble_eq_true rfl) (Nat.le_refl _) (Nat.le_refl _) dX12_linesOf_93 (q_L.deep (by decide) (kX12_is (Q := fun r S' => r = some (.int (q_b r48)) ∧ S' = x.2.2) w e49 ⟨rfl, rfl⟩)) (q_kI ?_)
      refine q_if_ne 102 (by decide) dX12_linesOf_96 (fun c => ?_) (fun c => ?_)
      · have c := q_b_n.mp c; rw [q_if1 c] at h
        obtain rfl := Option.some.inj h
        refine q_sub [0, 1, 2, 3, 4, 5] rfl ?_
        exact K4
      · have c := q_b_0.mp c; rw [q_if0 c] at h
        refine q_iinc (v := (x.1 + (1 : Int32))) 4 [(4, .int (x.1 + (1 : Int32))), (0, .ref 102), (1, .ref q), (2, .int y2), (3, .int y3), (5, .int x.2.1)] (by decide) rfl (congrArg (fun t => x.1 + t) (by decide)) rfl dX12_linesOf_99 ?_
        obtain rfl := Option.some.inj h
        refine q_sub [1, 2, 3, 4, 0, 5] rfl ?_
        exact K4
    · have c := q_b_n.mp c; rw [q_if1 c] at h
      refine q_aload_n 0 rfl rfl dX12_linesOf_53 ?_
      refine q_getR (q_sh102 w) (by decide) (by decide) rfl lfX12_49 dX12_linesOf_54 (r := 167) (q_wr102_17 w) ?_
      refine q_aload_n 0 rfl rfl dX12_linesOf_57 ?_
      refine q_getI (q_sh102 w) (by decide) (by decide) rfl lfX12_334 dX12_linesOf_58 ?_
      refine q_iload 5 rfl dX12_linesOf_61 ?_
      obtain ⟨hg50, h⟩ := q_guard h
      refine q_iast (q_sh167 w) (q_inb_in hg50) dX12_linesOf_63 ?_
      obtain ⟨S51, e52, h⟩ := q_bindS h
      refine q_st e52 ?_
      have fx53 : q_Fx x.2.2 S51 := e52 ▸ q_Fx.sI (q_Fx.rf x.2.2)
      refine q_aload_n 0 rfl rfl dX12_linesOf_64 ?_
      refine q_getR (q_sh102 (w.fx fx53)) (by decide) (by decide) rfl lfX12_52 dX12_linesOf_65 (r := 168) (q_wr102_18 (w.fx fx53)) ?_
      refine q_aload_n 0 rfl rfl dX12_linesOf_68 ?_
      refine q_getI (q_sh102 (w.fx fx53)) (by decide) (by decide) rfl lfX12_334 dX12_linesOf_69 ?_
      refine q_iload 4 rfl dX12_linesOf_72 ?_
      obtain ⟨hg54, h⟩ := q_guard h
      refine q_iast (q_sh168 (w.fx fx53)) (q_inb_in hg54) dX12_linesOf_74 ?_
      obtain ⟨S55, e56, h⟩ := q_bindS h
      refine q_st e56 ?_
      have fx57 : q_Fx x.2.2 S55 := e56 ▸ q_Fx.sI (fx53)
      refine q_aload_n 0 rfl rfl dX12_linesOf_75 ?_
      refine q_dup rfl dX12_linesOf_76 ?_
      refine q_getI (q_sh102 (w.fx fx57)) (by decide) (by decide) rfl lfX12_334 dX12_linesOf_77 ?_
      refine q_iconst (v := (1 : Int32)) (by decide) dX12_linesOf_80 ?_
      refine q_iadd dX12_linesOf_81 ?_
      refine q_putI (q_sh102 (w.fx fx57)) (by decide) (by decide) rfl rfl ⟨rfl, rfl⟩ lfX12_334 dX12_linesOf_82 ?_
      obtain ⟨S58, e59, h⟩ := q_bindS h
      refine q_st e59 ?_
      have fx60 : q_Fx x.2.2 S58 := e59 ▸ q_Fx.sI (fx57)
      refine q_goto 102 (by decide) dX12_linesOf_85 ?_
      obtain rfl := Option.some.inj h
      refine q_sub [0, 1, 2, 3, 4, 5] rfl ?_
      exact K4
theorem lX12_linesOf_33 {g : QG} {Q : Option Value → QS → Prop} {q : Nat} {y2 : Int32} {y3 : Int32} {r : Bool × QS} (hq : q_qok q) (hQ : Q (some (.int (q_b r.1))) r.2) : ∀ (c : Nat) (x : Int32 × Int32 × QS), q_Wire x.2.2 → q_it (tX12_linesOf_33 q y2 y3) c x = some r → q_L g mX12_linesOf 9 0 0 Q 0 0 33 [(0, .ref 102), (1, .ref q), (2, .int y2), (3, .int y3), (4, .int x.1), (5, .int x.2.1)] [] x.2.2 := by
  intro c
  induction c with
  | zero => intro x w h; cases h
  | succ c ih =>
    intro x w h
    simp only [q_it] at h
    cases hz : tX12_linesOf_33 q y2 y3 x with
    | none => rw [hz] at h; cases h
    | some z =>
      rw [hz] at h
      refine sX12_linesOf_33 w hq hz ?_
      rcases z with z | y
      · cases h; exact hQ
      · have fz := fxtX12_linesOf_33 hz; exact ih y (w.fx fz) h
theorem kX12_linesOf_33 {S : QS} {g : QG} {Q : Option Value → QS → Prop} {q : Nat} {y2 : Int32} {y3 : Int32} {y4 : Int32} {y5 : Int32} {r : Bool × QS} (w : q_Wire S) (hq : q_qok q) (h : fX12_linesOf_33 S q y2 y3 y4 y5 = some r) (hQ : Q (some (.int (q_b r.1))) r.2) : q_L g mX12_linesOf 9 0 0 Q 0 0 33 [(0, .ref 102), (1, .ref q), (2, .int y2), (3, .int y3), (4, .int y4), (5, .int y5)] [] S := by
  obtain ⟨c, hc⟩ := q_run_it h
  exact lX12_linesOf_33 hq hQ c (y4, y5, S) w hc
set_option maxRecDepth 20000 in
theorem kX12_linesOf {S : QS} {g : QG} {Q : Option Value → QS → Prop} {q : Nat} {x2 : Int32} {r : Bool × QS} (w : q_Wire S) (hq : q_qok q) (h : fX12_linesOf S q x2 = some r) (hQ : Q (some (.int (q_b r.1))) r.2) : q_M g mX12_linesOf 9 0 0 [.ref 102, .ref q, .int x2] S Q := by
  unfold fX12_linesOf at h
  show q_L g mX12_linesOf 9 0 0 Q 0 0 0 [(0, .ref 102), (1, .ref q), (2, .int x2)] [] S
  refine q_aload_n 0 rfl rfl dX12_linesOf_0 ?_
  refine q_getR (q_sh102 w) (by decide) (by decide) rfl lfX12_46 dX12_linesOf_1 (r := 166) (q_wr102_16 w) ?_
  refine q_iload_n 2 rfl rfl dX12_linesOf_4 ?_
  obtain ⟨hg65, h⟩ := q_guard h
  refine q_iald (q_sh166 w) (q_inb_in hg65) dX12_linesOf_5 ?_
  refine q_iconst (v := (3 : Int32)) (by decide) dX12_linesOf_6 ?_
  refine q_iadd dX12_linesOf_7 ?_
  refine q_istore_n [(3, .int ((S.2.1 166 x2.toNatClampNeg) + (3 : Int32))), (0, .ref 102), (1, .ref q), (2, .int x2)] rfl (by decide) rfl dX12_linesOf_8 ?_
  refine q_aload_n 2 rfl rfl dX12_linesOf_9 ?_
  refine q_getR (q_shQ0 w hq) (by decide) (by decide) rfl lfX12_331 dX12_linesOf_10 (r := (q + 12)) (q_wrQ0_18 w hq) ?_
  refine q_iload_n 3 rfl rfl dX12_linesOf_13 ?_
  refine q_aload_n 2 rfl rfl dX12_linesOf_14 ?_
  refine q_getI (q_shQ0 w hq) (by decide) (by decide) rfl lfX12_318 dX12_linesOf_15 ?_
  obtain ⟨hg66, h⟩ := q_guard h
  refine q_iast (q_shQ12 w hq) (q_inb_in hg66) dX12_linesOf_18 ?_
  obtain ⟨S67, e68, h⟩ := q_bindS h
  refine q_st e68 ?_
  have fx69 : q_Fx S S67 := e68 ▸ q_Fx.sI (q_Fx.rf S)
  refine q_aload_n 1 rfl rfl dX12_linesOf_19 ?_
  refine q_iconst (v := (0 : Int32)) (by decide) dX12_linesOf_20 ?_
  refine q_putI (q_sh102 (w.fx fx69)) (by decide) (by decide) rfl rfl ⟨rfl, rfl⟩ lfX12_334 dX12_linesOf_21 ?_
  obtain ⟨S70, e71, h⟩ := q_bindS h
  refine q_st e71 ?_
  have fx72 : q_Fx S S70 := e71 ▸ q_Fx.sI (fx69)
  refine q_aload_n 2 rfl rfl dX12_linesOf_24 ?_
  refine q_getI (q_shQ0 (w.fx fx72) hq) (by decide) (by decide) rfl lfX12_318 dX12_linesOf_25 ?_
  refine q_istore [(4, .int (S70.2.1 q 3)), (3, .int ((S.2.1 166 x2.toNatClampNeg) + (3 : Int32))), (0, .ref 102), (1, .ref q), (2, .int x2)] (by decide) rfl dX12_linesOf_28 ?_
  refine q_iload_n 1 rfl rfl dX12_linesOf_30 ?_
  refine q_istore [(5, .int ((S.2.1 166 x2.toNatClampNeg) + (3 : Int32))), (4, .int (S70.2.1 q 3)), (3, .int ((S.2.1 166 x2.toNatClampNeg) + (3 : Int32))), (0, .ref 102), (1, .ref q), (2, .int x2)] (by decide) rfl dX12_linesOf_31 ?_
  refine q_sub [3, 4, 5, 2, 1, 0] rfl ?_
  exact kX12_linesOf_33 (w.fx fx72) hq h hQ
set_option maxRecDepth 20000 in
theorem sX12_lines_17 {g : QG} {Q : Option Value → QS → Prop} {q : Nat}  {x : Int32 × QS} {z : (Bool × QS) ⊕ (Int32 × QS)} (w : q_Wire x.2) (hq : q_qok q) (h : tX12_lines_17 q x = some z) (hQ : (Sum.elim (fun r0 : Bool × QS => Q (some (.int (q_b r0.1))) r0.2) (fun y : Int32 × QS => q_L g mX12_lines 10 0 0 Q 0 0 17 [(0, .ref 102), (1, .ref q), (2, .int y.1)] [] y.2) z)) : q_L g mX12_lines 10 0 0 Q 0 0 17 [(0, .ref 102), (1, .ref q), (2, .int x.1)] [] x.2 := by
  unfold tX12_lines_17 at h
  refine q_iload_n 2 rfl rfl dX12_lines_17 ?_
  refine q_aload_n 1 rfl rfl dX12_lines_18 ?_
  refine q_getI (q_shQ0 w hq) (by decide) (by decide) rfl lfX12_267 dX12_lines_19 ?_
  refine q_icmp_ge 42 (by decide) dX12_lines_22 (fun c => ?_) (fun c => ?_)
  · rw [if_pos c] at h
    refine q_iconst (v := (1 : Int32)) (by decide) dX12_lines_42 ?_
    cases h
    exact q_iret rfl (by decide) dX12_lines_43 hQ
  · rw [if_neg c] at h
    refine q_aload_n 0 rfl rfl dX12_lines_25 ?_
    refine q_aload_n 1 rfl rfl dX12_lines_26 ?_
    refine q_iload_n 2 rfl rfl dX12_lines_27 ?_
    obtain ⟨r1, e2, h⟩ := q_bind h
    refine q_callV (ci := 12) (d := 9) (Mc := mX12_linesOf) (kc := 0) (nc := 0) [.ref q, .int x.1] okX12_linesOf (q_sh102 w) (by decide) rfl lmX12_327 inX12_linesOf seX12_linesOf rfl (Nat.le_of_ble_eq_true rfl) (Nat.le_of_ble_eq_true rfl) (Nat.le_refl _) (Nat.le_refl _) dX12_lines_28 (q_L.deep (by decide) (kX12_linesOf (Q := fun r S' => r = some (.int (q_b r1.1)) ∧ S' = r1.2) w hq e2 ⟨rfl, rfl⟩)) (q_kI ?_)
    have fx3 : q_Fx x.2 r1.2 := q_Fx.tr (q_Fx.rf x.2) (fxX12_linesOf e2)
    refine q_if_ne 36 (by decide) dX12_lines_31 (fun c => ?_) (fun c => ?_)
    · have c := q_b_n.mp c; rw [q_if1 c] at h
      refine q_iinc (v := (x.1 + (1 : Int32))) 2 [(2, .int (x.1 + (1 : Int32))), (0, .ref 102), (1, .ref q)] (by decide) rfl (congrArg (fun t => x.1 + t) (by decide)) rfl dX12_lines_36 ?_
      refine q_goto 17 (by decide) dX12_lines_39 ?_
      refine q_sub [1, 2, 0] rfl ?_
      cases h
      exact hQ
    · have c := q_b_0.mp c; rw [q_if0 c] at h
      refine q_iconst (v := (0 : Int32)) (by decide) dX12_lines_34 ?_
      cases h
      exact q_iret rfl (by decide) dX12_lines_35 hQ
theorem lX12_lines_17 {g : QG} {Q : Option Value → QS → Prop} {q : Nat}  {r : Bool × QS} (hq : q_qok q) (hQ : Q (some (.int (q_b r.1))) r.2) : ∀ (c : Nat) (x : Int32 × QS), q_Wire x.2 → q_it (tX12_lines_17 q) c x = some r → q_L g mX12_lines 10 0 0 Q 0 0 17 [(0, .ref 102), (1, .ref q), (2, .int x.1)] [] x.2 := by
  intro c
  induction c with
  | zero => intro x w h; cases h
  | succ c ih =>
    intro x w h
    simp only [q_it] at h
    cases hz : tX12_lines_17 q x with
    | none => rw [hz] at h; cases h
    | some z =>
      rw [hz] at h
      refine sX12_lines_17 w hq hz ?_
      rcases z with z | y
      · cases h; exact hQ
      · have fz := fxtX12_lines_17 hz; exact ih y (w.fx fz) h
theorem kX12_lines_17 {S : QS} {g : QG} {Q : Option Value → QS → Prop} {q : Nat} {y2 : Int32} {r : Bool × QS} (w : q_Wire S) (hq : q_qok q) (h : fX12_lines_17 S q y2 = some r) (hQ : Q (some (.int (q_b r.1))) r.2) : q_L g mX12_lines 10 0 0 Q 0 0 17 [(0, .ref 102), (1, .ref q), (2, .int y2)] [] S := by
  obtain ⟨c, hc⟩ := q_run_it h
  exact lX12_lines_17 hq hQ c (y2, S) w hc
set_option maxRecDepth 20000 in
theorem kX12_lines {S : QS} {g : QG} {Q : Option Value → QS → Prop} {q : Nat}  {r : Bool × QS} (w : q_Wire S) (hq : q_qok q) (h : fX12_lines S q = some r) (hQ : Q (some (.int (q_b r.1))) r.2) : q_M g mX12_lines 10 0 0 [.ref 102, .ref q] S Q := by
  unfold fX12_lines at h
  show q_L g mX12_lines 10 0 0 Q 0 0 0 [(0, .ref 102), (1, .ref q)] [] S
  refine q_aload_n 1 rfl rfl dX12_lines_0 ?_
  refine q_iconst (v := (0 : Int32)) (by decide) dX12_lines_1 ?_
  refine q_putI (q_shQ0 w hq) (by decide) (by decide) rfl rfl ⟨rfl, rfl⟩ lfX12_318 dX12_lines_2 ?_
  obtain ⟨S4, e5, h⟩ := q_bindS h
  refine q_st e5 ?_
  have fx6 : q_Fx S S4 := e5 ▸ q_Fx.sI (q_Fx.rf S)
  refine q_aload_n 1 rfl rfl dX12_lines_5 ?_
  refine q_iconst (v := (0 : Int32)) (by decide) dX12_lines_6 ?_
  refine q_putI (q_shQ0 (w.fx fx6) hq) (by decide) (by decide) rfl rfl ⟨rfl, rfl⟩ lfX12_321 dX12_lines_7 ?_
  obtain ⟨S7, e8, h⟩ := q_bindS h
  refine q_st e8 ?_
  have fx9 : q_Fx S S7 := e8 ▸ q_Fx.sI (fx6)
  refine q_aload_n 1 rfl rfl dX12_lines_10 ?_
  refine q_iconst (v := (0 : Int32)) (by decide) dX12_lines_11 ?_
  refine q_putI (q_shQ0 (w.fx fx9) hq) (by decide) (by decide) rfl rfl ⟨rfl, rfl⟩ lfX12_324 dX12_lines_12 ?_
  obtain ⟨S10, e11, h⟩ := q_bindS h
  refine q_st e11 ?_
  have fx12 : q_Fx S S10 := e11 ▸ q_Fx.sI (fx9)
  refine q_iconst (v := (0 : Int32)) (by decide) dX12_lines_15 ?_
  refine q_istore_n [(2, .int (0 : Int32)), (0, .ref 102), (1, .ref q)] rfl (by decide) rfl dX12_lines_16 ?_
  refine q_sub [1, 2, 0] rfl ?_
  exact kX12_lines_17 (w.fx fx12) hq h hQ
set_option maxRecDepth 20000 in
theorem sX12_settled_183 {g : QG} {Q : Option Value → QS → Prop} {q : Nat}  {x : Int32 × QS} {z : (Bool × QS) ⊕ (Int32 × QS)} (w : q_Wire x.2) (hq : q_qok q) (h : tX12_settled_183 q x = some z) (hQ : (Sum.elim (fun r0 : Bool × QS => Q (some (.int (q_b r0.1))) r0.2) (fun y : Int32 × QS => q_L g mX12_settled 5 0 0 Q 0 0 183 [(0, .ref 102), (1, .ref q), (2, .int y.1)] [] y.2) z)) : q_L g mX12_settled 5 0 0 Q 0 0 183 [(0, .ref 102), (1, .ref q), (2, .int x.1)] [] x.2 := by
  unfold tX12_settled_183 at h
  refine q_iload_n 2 rfl rfl dX12_settled_183 ?_
  refine q_aload_n 1 rfl rfl dX12_settled_184 ?_
  refine q_getI (q_shQ0 w hq) (by decide) (by decide) rfl lfX12_267 dX12_settled_185 ?_
  refine q_icmp_ge 267 (by decide) dX12_settled_188 (fun c => ?_) (fun c => ?_)
  · rw [if_pos c] at h
    refine q_aload_n 1 rfl rfl dX12_settled_267 ?_
    refine q_getI (q_shQ0 w hq) (by decide) (by decide) rfl lfX12_403 dX12_settled_268 ?_
    refine q_if_ge 285 (by decide) dX12_settled_271 (fun c => ?_) (fun c => ?_)
    · rw [if_pos c] at h
      refine q_iconst (v := (1 : Int32)) (by decide) dX12_settled_285 ?_
      refine q_goto 290 (by decide) dX12_settled_286 ?_
      cases h
      exact q_iret rfl (by decide) dX12_settled_290 hQ
    · rw [if_neg c] at h
      refine q_aload_n 0 rfl rfl dX12_settled_274 ?_
      refine q_aload_n 0 rfl rfl dX12_settled_275 ?_
      refine q_getI (q_sh102 w) (by decide) (by decide) rfl lfX12_118 dX12_settled_276 ?_
      obtain ⟨r1, e2, h⟩ := q_bind h
      refine q_callV (ci := 12) (d := 4) (Mc := mX12_wrong) (kc := 0) (nc := 0) [.int (x.2.2.1 102 10)] okX12_wrong (q_sh102 w) (by decide) rfl lmX12_254 inX12_wrong seX12_wrong rfl (Nat.le_of_ble_eq_true rfl) (Nat.le_of_ble_eq_true rfl) (Nat.le_refl _) (Nat.le_refl _) dX12_settled_279 (q_L.deep (by decide) (kX12_wrong (Q := fun r S' => r = some (.int (q_b r1.1)) ∧ S' = r1.2) w e2 ⟨rfl, rfl⟩)) (q_kI ?_)
      have fx3 : q_Fx x.2 r1.2 := q_Fx.tr (q_Fx.rf x.2) (fxX12_wrong e2)
      refine q_if_eq 289 (by decide) dX12_settled_282 (fun c => ?_) (fun c => ?_)
      · have c := q_b_0.mp c; rw [q_if0 c] at h
        refine q_iconst (v := (0 : Int32)) (by decide) dX12_settled_289 ?_
        cases h
        exact q_iret rfl (by decide) dX12_settled_290 hQ
      · have c := q_b_n.mp c; rw [q_if1 c] at h
        refine q_iconst (v := (1 : Int32)) (by decide) dX12_settled_285 ?_
        refine q_goto 290 (by decide) dX12_settled_286 ?_
        cases h
        exact q_iret rfl (by decide) dX12_settled_290 hQ
  · rw [if_neg c] at h
    refine q_aload_n 0 rfl rfl dX12_settled_191 ?_
    refine q_aload_n 0 rfl rfl dX12_settled_192 ?_
    refine q_getR (q_sh102 w) (by decide) (by decide) rfl lfX12_37 dX12_settled_193 (r := 163) (q_wr102_13 w) ?_
    refine q_aload_n 1 rfl rfl dX12_settled_196 ?_
    refine q_getR (q_shQ0 w hq) (by decide) (by decide) rfl lfX12_270 dX12_settled_197 (r := (q + 6)) (q_wrQ0_12 w hq) ?_
    refine q_iload_n 2 rfl rfl dX12_settled_200 ?_
    obtain ⟨hg4, h⟩ := q_guard h
    refine q_iald (q_shQ6 w hq) (q_inb_in hg4) dX12_settled_201 ?_
    obtain ⟨hg5, h⟩ := q_guard h
    refine q_iald (q_sh163 w) (q_inb_in hg5) dX12_settled_202 ?_
    refine q_ldcSw (j := 45) (r := 1000090) rfl rfl dX12_settled_203 ?_
    obtain ⟨r6, e7, h⟩ := q_bind h
    refine q_callV (ci := 12) (d := 4) (Mc := mX12_is) (kc := 0) (nc := 0) [.int (x.2.2.1 163 (x.2.2.1 (q + 6) x.1.toNatClampNeg).toNatClampNeg), .ref 1000090] okX12_is (q_sh102 w) (by decide) rfl lmX12_163 inX12_is seX12_is rfl (Nat.le_of_ble_eq_true rfl) (Nat.le_of_ble_eq_true rfl) (Nat.le_refl _) (Nat.le_refl _) dX12_settled_206 (q_L.deep (by decide) (kX12_is (Q := fun r S' => r = some (.int (q_b r6)) ∧ S' = x.2) w e7 ⟨rfl, rfl⟩)) (q_kI ?_)
    refine q_if_eq 261 (by decide) dX12_settled_209 (fun c => ?_) (fun c => ?_)
    · have c := q_b_0.mp c; rw [q_if0 c] at h
      refine q_iinc (v := (x.1 + (1 : Int32))) 2 [(2, .int (x.1 + (1 : Int32))), (0, .ref 102), (1, .ref q)] (by decide) rfl (congrArg (fun t => x.1 + t) (by decide)) rfl dX12_settled_261 ?_
      refine q_goto 183 (by decide) dX12_settled_264 ?_
      refine q_sub [1, 2, 0] rfl ?_
      cases h
      exact hQ
    · have c := q_b_n.mp c; rw [q_if1 c] at h
      refine q_aload_n 0 rfl rfl dX12_settled_212 ?_
      refine q_aload_n 0 rfl rfl dX12_settled_213 ?_
      refine q_getR (q_sh102 w) (by decide) (by decide) rfl lfX12_43 dX12_settled_214 (r := 165) (q_wr102_15 w) ?_
      refine q_iload_n 2 rfl rfl dX12_settled_217 ?_
      obtain ⟨hg8, h⟩ := q_guard h
      refine q_iald (q_sh165 w) (q_inb_in hg8) dX12_settled_218 ?_
      refine q_ldcSw (j := 46) (r := 1000092) rfl rfl dX12_settled_219 ?_
      obtain ⟨r9, e10, h⟩ := q_bind h
      refine q_callV (ci := 12) (d := 4) (Mc := mX12_is) (kc := 0) (nc := 0) [.int (x.2.2.1 165 x.1.toNatClampNeg), .ref 1000092] okX12_is (q_sh102 w) (by decide) rfl lmX12_163 inX12_is seX12_is rfl (Nat.le_of_ble_eq_true rfl) (Nat.le_of_ble_eq_true rfl) (Nat.le_refl _) (Nat.le_refl _) dX12_settled_222 (q_L.deep (by decide) (kX12_is (Q := fun r S' => r = some (.int (q_b r9)) ∧ S' = x.2) w e10 ⟨rfl, rfl⟩)) (q_kI ?_)
      refine q_if_eq 261 (by decide) dX12_settled_225 (fun c => ?_) (fun c => ?_)
      · have c := q_b_0.mp c; rw [q_if0 c] at h
        refine q_iinc (v := (x.1 + (1 : Int32))) 2 [(2, .int (x.1 + (1 : Int32))), (0, .ref 102), (1, .ref q)] (by decide) rfl (congrArg (fun t => x.1 + t) (by decide)) rfl dX12_settled_261 ?_
        refine q_goto 183 (by decide) dX12_settled_264 ?_
        refine q_sub [1, 2, 0] rfl ?_
        cases h
        exact hQ
      · have c := q_b_n.mp c; rw [q_if1 c] at h
        refine q_aload_n 1 rfl rfl dX12_settled_228 ?_
        refine q_getR (q_shQ0 w hq) (by decide) (by decide) rfl lfX12_298 dX12_settled_229 (r := (q + 7)) (q_wrQ0_13 w hq) ?_
        refine q_iload_n 2 rfl rfl dX12_settled_232 ?_
        obtain ⟨hg11, h⟩ := q_guard h
        refine q_zald (q_shQ7 w hq) (q_inb_in hg11) dX12_settled_233 ?_
        refine q_if_ne 261 (by decide) dX12_settled_234 (fun c => ?_) (fun c => ?_)
        · rw [if_neg c] at h
          refine q_iinc (v := (x.1 + (1 : Int32))) 2 [(2, .int (x.1 + (1 : Int32))), (0, .ref 102), (1, .ref q)] (by decide) rfl (congrArg (fun t => x.1 + t) (by decide)) rfl dX12_settled_261 ?_
          refine q_goto 183 (by decide) dX12_settled_264 ?_
          refine q_sub [1, 2, 0] rfl ?_
          cases h
          exact hQ
        · rw [if_pos c] at h
          refine q_aload_n 1 rfl rfl dX12_settled_237 ?_
          refine q_getR (q_shQ0 w hq) (by decide) (by decide) rfl lfX12_313 dX12_settled_238 (r := (q + 8)) (q_wrQ0_14 w hq) ?_
          refine q_iload_n 2 rfl rfl dX12_settled_241 ?_
          obtain ⟨hg12, h⟩ := q_guard h
          refine q_iald (q_shQ8 w hq) (q_inb_in hg12) dX12_settled_242 ?_
          refine q_if_ne 261 (by decide) dX12_settled_243 (fun c => ?_) (fun c => ?_)
          · rw [if_neg c] at h
            refine q_iinc (v := (x.1 + (1 : Int32))) 2 [(2, .int (x.1 + (1 : Int32))), (0, .ref 102), (1, .ref q)] (by decide) rfl (congrArg (fun t => x.1 + t) (by decide)) rfl dX12_settled_261 ?_
            refine q_goto 183 (by decide) dX12_settled_264 ?_
            refine q_sub [1, 2, 0] rfl ?_
            cases h
            exact hQ
          · rw [if_pos c] at h
            refine q_aload_n 1 rfl rfl dX12_settled_246 ?_
            refine q_getR (q_shQ0 w hq) (by decide) (by decide) rfl lfX12_308 dX12_settled_247 (r := (q + 10)) (q_wrQ0_16 w hq) ?_
            refine q_iload_n 2 rfl rfl dX12_settled_250 ?_
            obtain ⟨hg13, h⟩ := q_guard h
            refine q_iald (q_shQ10 w hq) (q_inb_in hg13) dX12_settled_251 ?_
            refine q_iconst (v := (-1 : Int32)) (by decide) dX12_settled_252 ?_
            refine q_icmp_ne 261 (by decide) dX12_settled_253 (fun c => ?_) (fun c => ?_)
            · rw [if_neg c] at h
              refine q_iinc (v := (x.1 + (1 : Int32))) 2 [(2, .int (x.1 + (1 : Int32))), (0, .ref 102), (1, .ref q)] (by decide) rfl (congrArg (fun t => x.1 + t) (by decide)) rfl dX12_settled_261 ?_
              refine q_goto 183 (by decide) dX12_settled_264 ?_
              refine q_sub [1, 2, 0] rfl ?_
              cases h
              exact hQ
            · rw [if_pos c] at h
              refine q_aload_n 1 rfl rfl dX12_settled_256 ?_
              refine q_iload_n 2 rfl rfl dX12_settled_257 ?_
              refine q_putI (q_shQ0 w hq) (by decide) (by decide) rfl rfl ⟨rfl, rfl⟩ lfX12_403 dX12_settled_258 ?_
              obtain ⟨S14, e15, h⟩ := q_bindS h
              refine q_st e15 ?_
              have fx16 : q_Fx x.2 S14 := e15 ▸ q_Fx.sI (q_Fx.rf x.2)
              refine q_iinc (v := (x.1 + (1 : Int32))) 2 [(2, .int (x.1 + (1 : Int32))), (0, .ref 102), (1, .ref q)] (by decide) rfl (congrArg (fun t => x.1 + t) (by decide)) rfl dX12_settled_261 ?_
              refine q_goto 183 (by decide) dX12_settled_264 ?_
              refine q_sub [1, 2, 0] rfl ?_
              cases h
              exact hQ
theorem lX12_settled_183 {g : QG} {Q : Option Value → QS → Prop} {q : Nat}  {r : Bool × QS} (hq : q_qok q) (hQ : Q (some (.int (q_b r.1))) r.2) : ∀ (c : Nat) (x : Int32 × QS), q_Wire x.2 → q_it (tX12_settled_183 q) c x = some r → q_L g mX12_settled 5 0 0 Q 0 0 183 [(0, .ref 102), (1, .ref q), (2, .int x.1)] [] x.2 := by
  intro c
  induction c with
  | zero => intro x w h; cases h
  | succ c ih =>
    intro x w h
    simp only [q_it] at h
    cases hz : tX12_settled_183 q x with
    | none => rw [hz] at h; cases h
    | some z =>
      rw [hz] at h
      refine sX12_settled_183 w hq hz ?_
      rcases z with z | y
      · cases h; exact hQ
      · have fz := fxtX12_settled_183 hz; exact ih y (w.fx fz) h
theorem kX12_settled_183 {S : QS} {g : QG} {Q : Option Value → QS → Prop} {q : Nat} {y2 : Int32} {r : Bool × QS} (w : q_Wire S) (hq : q_qok q) (h : fX12_settled_183 S q y2 = some r) (hQ : Q (some (.int (q_b r.1))) r.2) : q_L g mX12_settled 5 0 0 Q 0 0 183 [(0, .ref 102), (1, .ref q), (2, .int y2)] [] S := by
  obtain ⟨c, hc⟩ := q_run_it h
  exact lX12_settled_183 hq hQ c (y2, S) w hc
set_option maxRecDepth 20000 in
theorem sX12_settled_113 {g : QG} {Q : Option Value → QS → Prop} {q : Nat}  {x : Int32 × Int32 × QS} {z : ((Bool × QS) ⊕ (Int32 × QS)) ⊕ (Int32 × Int32 × QS)} (w : q_Wire x.2.2) (hq : q_qok q) (h : tX12_settled_113 q x = some z) (hQ : (Sum.elim (fun r1 : (Bool × QS) ⊕ (Int32 × QS) => (Sum.elim (fun r0 : Bool × QS => Q (some (.int (q_b r0.1))) r0.2) (fun y : Int32 × QS => q_L g mX12_settled 5 0 0 Q 0 0 29 [(0, .ref 102), (1, .ref q), (2, .int y.1)] [] y.2) r1)) (fun y' : Int32 × Int32 × QS => q_L g mX12_settled 5 0 0 Q 0 0 113 [(0, .ref 102), (1, .ref q), (2, .int y'.1), (4, .int y'.2.1)] [] y'.2.2) z)) : q_L g mX12_settled 5 0 0 Q 0 0 113 [(0, .ref 102), (1, .ref q), (2, .int x.1), (4, .int x.2.1)] [] x.2.2 := by
  unfold tX12_settled_113 at h
  refine q_iload 3 rfl dX12_settled_113 ?_
  refine q_aload_n 1 rfl rfl dX12_settled_115 ?_
  refine q_getI (q_shQ0 w hq) (by decide) (by decide) rfl lfX12_267 dX12_settled_116 ?_
  refine q_icmp_ge 170 (by decide) dX12_settled_119 (fun c => ?_) (fun c => ?_)
  · rw [if_pos c] at h
    refine q_iinc (v := (x.1 + (1 : Int32))) 2 [(2, .int (x.1 + (1 : Int32))), (0, .ref 102), (1, .ref q), (4, .int x.2.1)] (by decide) rfl (congrArg (fun t => x.1 + t) (by decide)) rfl dX12_settled_170 ?_
    refine q_goto 29 (by decide) dX12_settled_173 ?_
    refine q_sub [1, 2, 0] rfl ?_
    cases h
    exact hQ
  · rw [if_neg c] at h
    refine q_aload_n 1 rfl rfl dX12_settled_122 ?_
    refine q_getR (q_shQ0 w hq) (by decide) (by decide) rfl lfX12_400 dX12_settled_123 (r := (q + 14)) (q_wrQ0_20 w hq) ?_
    refine q_iload_n 2 rfl rfl dX12_settled_126 ?_
    refine q_bipush (v := (48 : Int32)) (by decide) dX12_settled_127 ?_
    refine q_imul dX12_settled_129 ?_
    refine q_iload 3 rfl dX12_settled_130 ?_
    refine q_iadd dX12_settled_132 ?_
    refine q_aload_n 0 rfl rfl dX12_settled_133 ?_
    refine q_aload_n 1 rfl rfl dX12_settled_134 ?_
    refine q_iload_n 2 rfl rfl dX12_settled_135 ?_
    refine q_aload_n 0 rfl rfl dX12_settled_136 ?_
    refine q_getR (q_sh102 w) (by decide) (by decide) rfl lfX12_26 dX12_settled_137 (r := 161) (q_wr102_8 w) ?_
    refine q_aload_n 0 rfl rfl dX12_settled_140 ?_
    refine q_getR (q_sh102 w) (by decide) (by decide) rfl lfX12_43 dX12_settled_141 (r := 165) (q_wr102_15 w) ?_
    refine q_iload 3 rfl dX12_settled_144 ?_
    obtain ⟨hg17, h⟩ := q_guard h
    refine q_iald (q_sh165 w) (q_inb_in hg17) dX12_settled_146 ?_
    obtain ⟨hg18, h⟩ := q_guard h
    refine q_iald (q_sh161 w) (q_inb_in hg18) dX12_settled_147 ?_
    refine q_aload_n 0 rfl rfl dX12_settled_148 ?_
    refine q_getR (q_sh102 w) (by decide) (by decide) rfl lfX12_30 dX12_settled_149 (r := 162) (q_wr102_9 w) ?_
    refine q_aload_n 0 rfl rfl dX12_settled_152 ?_
    refine q_getR (q_sh102 w) (by decide) (by decide) rfl lfX12_43 dX12_settled_153 (r := 165) (q_wr102_15 w) ?_
    refine q_iload 3 rfl dX12_settled_156 ?_
    obtain ⟨hg19, h⟩ := q_guard h
    refine q_iald (q_sh165 w) (q_inb_in hg19) dX12_settled_158 ?_
    obtain ⟨hg20, h⟩ := q_guard h
    refine q_iald (q_sh162 w) (q_inb_in hg20) dX12_settled_159 ?_
    obtain ⟨r21, e22, h⟩ := q_bind h
    refine q_callV (ci := 12) (d := 4) (Mc := mX12_bodyOf) (kc := 0) (nc := 0) [.ref q, .int x.1, .int (x.2.2.2.1 161 (x.2.2.2.1 165 x.2.1.toNatClampNeg).toNatClampNeg), .int (x.2.2.2.1 162 (x.2.2.2.1 165 x.2.1.toNatClampNeg).toNatClampNeg)] okX12_bodyOf (q_sh102 w) (by decide) rfl lmX12_295 inX12_bodyOf seX12_bodyOf rfl (Nat.le_of_ble_eq_true rfl) (Nat.le_of_ble_eq_true rfl) (Nat.le_refl _) (Nat.le_refl _) dX12_settled_160 (q_L.deep (by decide) (kX12_bodyOf (Q := fun r S' => r = some (.int r21) ∧ S' = x.2.2) w hq e22 ⟨rfl, rfl⟩)) (q_kI ?_)
    obtain ⟨hg23, h⟩ := q_guard h
    refine q_iast (q_shQ14 w hq) (q_inb_in hg23) dX12_settled_163 ?_
    obtain ⟨S24, e25, h⟩ := q_bindS h
    refine q_st e25 ?_
    have fx26 : q_Fx x.2.2 S24 := e25 ▸ q_Fx.sI (q_Fx.rf x.2.2)
    refine q_iinc (v := (x.2.1 + (1 : Int32))) 3 [(4, .int (x.2.1 + (1 : Int32))), (0, .ref 102), (1, .ref q), (2, .int x.1)] (by decide) rfl (congrArg (fun t => x.2.1 + t) (by decide)) rfl dX12_settled_164 ?_
    refine q_goto 113 (by decide) dX12_settled_167 ?_
    refine q_sub [1, 2, 3, 0] rfl ?_
    cases h
    exact hQ
theorem lX12_settled_113 {g : QG} {Q : Option Value → QS → Prop} {q : Nat}  {r : (Bool × QS) ⊕ (Int32 × QS)} (hq : q_qok q) (hQ : (Sum.elim (fun r0 : Bool × QS => Q (some (.int (q_b r0.1))) r0.2) (fun y : Int32 × QS => q_L g mX12_settled 5 0 0 Q 0 0 29 [(0, .ref 102), (1, .ref q), (2, .int y.1)] [] y.2) r)) : ∀ (c : Nat) (x : Int32 × Int32 × QS), q_Wire x.2.2 → q_it (tX12_settled_113 q) c x = some r → q_L g mX12_settled 5 0 0 Q 0 0 113 [(0, .ref 102), (1, .ref q), (2, .int x.1), (4, .int x.2.1)] [] x.2.2 := by
  intro c
  induction c with
  | zero => intro x w h; cases h
  | succ c ih =>
    intro x w h
    simp only [q_it] at h
    cases hz : tX12_settled_113 q x with
    | none => rw [hz] at h; cases h
    | some z =>
      rw [hz] at h
      refine sX12_settled_113 w hq hz ?_
      rcases z with z | y
      · cases h; exact hQ
      · have fz := fxtX12_settled_113 hz; exact ih y (w.fx fz) h
theorem usX12_settled_113 {S : QS} {g : QG} {Q : Option Value → QS → Prop} {q : Nat} {y2 : Int32} {y4 : Int32} {r : (Bool × QS) ⊕ (Int32 × QS)} (w : q_Wire S) (hq : q_qok q) (h : uX12_settled_113 S q y2 y4 = some r) (hQ : (Sum.elim (fun r0 : Bool × QS => Q (some (.int (q_b r0.1))) r0.2) (fun y : Int32 × QS => q_L g mX12_settled 5 0 0 Q 0 0 29 [(0, .ref 102), (1, .ref q), (2, .int y.1)] [] y.2) r)) : q_L g mX12_settled 5 0 0 Q 0 0 113 [(0, .ref 102), (1, .ref q), (2, .int y2), (4, .int y4)] [] S := by
  obtain ⟨c, hc⟩ := q_run_it h
  exact lX12_settled_113 hq hQ c (y2, y4, S) w hc
set_option maxRecDepth 20000 in
theorem sX12_settled_66 {g : QG} {Q : Option Value → QS → Prop} {q : Nat} {y2 : Int32} {x : Int32 × Int32 × QS} {z : ((Bool × QS) ⊕ (Int32 × QS)) ⊕ (Int32 × Int32 × QS)} (w : q_Wire x.2.2) (hq : q_qok q) (h : tX12_settled_66 q y2 x = some z) (hQ : (Sum.elim (fun r1 : (Bool × QS) ⊕ (Int32 × QS) => (Sum.elim (fun r0 : Bool × QS => Q (some (.int (q_b r0.1))) r0.2) (fun y : Int32 × QS => q_L g mX12_settled 5 0 0 Q 0 0 29 [(0, .ref 102), (1, .ref q), (2, .int y.1)] [] y.2) r1)) (fun y' : Int32 × Int32 × QS => q_L g mX12_settled 5 0 0 Q 0 0 66 [(0, .ref 102), (1, .ref q), (2, .int y2), (3, .int y'.1), (4, .int y'.2.1)] [] y'.2.2) z)) : q_L g mX12_settled 5 0 0 Q 0 0 66 [(0, .ref 102), (1, .ref q), (2, .int y2), (3, .int x.1), (4, .int x.2.1)] [] x.2.2 := by
  unfold tX12_settled_66 at h
  refine q_iload 4 rfl dX12_settled_66 ?_
  refine q_aload_n 1 rfl rfl dX12_settled_68 ?_
  refine q_getI (q_shQ0 w hq) (by decide) (by decide) rfl lfX12_257 dX12_settled_69 ?_
  refine q_icmp_ge 103 (by decide) dX12_settled_72 (fun c => ?_) (fun c => ?_)
  · rw [if_pos c] at h
    refine q_aload_n 1 rfl rfl dX12_settled_103 ?_
    refine q_getR (q_shQ0 w hq) (by decide) (by decide) rfl lfX12_394 dX12_settled_104 (r := (q + 2)) (q_wrQ0_8 w hq) ?_
    refine q_iload_n 2 rfl rfl dX12_settled_107 ?_
    refine q_iload_n 3 rfl rfl dX12_settled_108 ?_
    obtain ⟨hg27, h⟩ := q_guard h
    refine q_iast (q_shQ2 w hq) (q_inb_in hg27) dX12_settled_109 ?_
    obtain ⟨S28, e29, h⟩ := q_bindS h
    refine q_st e29 ?_
    have fx30 : q_Fx x.2.2 S28 := e29 ▸ q_Fx.sI (q_Fx.rf x.2.2)
    refine q_iconst (v := (0 : Int32)) (by decide) dX12_settled_110 ?_
    refine q_istore [(4, .int (0 : Int32)), (0, .ref 102), (1, .ref q), (2, .int y2), (3, .int x.1)] (by decide) rfl dX12_settled_111 ?_
    refine q_sub [1, 2, 3, 0] rfl ?_
    obtain ⟨r31, e32, h⟩ := q_bind h
    cases h
    exact usX12_settled_113 (w.fx fx30) hq e32 hQ
  · rw [if_neg c] at h
    refine q_aload_n 1 rfl rfl dX12_settled_75 ?_
    refine q_getR (q_shQ0 w hq) (by decide) (by decide) rfl lfX12_260 dX12_settled_76 (r := (q + 3)) (q_wrQ0_9 w hq) ?_
    refine q_iload 4 rfl dX12_settled_79 ?_
    obtain ⟨hg33, h⟩ := q_guard h
    refine q_iald (q_shQ3 w hq) (q_inb_in hg33) dX12_settled_81 ?_
    refine q_iload_n 2 rfl rfl dX12_settled_82 ?_
    refine q_icmp_ne 97 (by decide) dX12_settled_83 (fun c => ?_) (fun c => ?_)
    · rw [if_neg c] at h
      refine q_iinc (v := (x.2.1 + (1 : Int32))) 4 [(4, .int (x.2.1 + (1 : Int32))), (0, .ref 102), (1, .ref q), (2, .int y2), (3, .int x.1)] (by decide) rfl (congrArg (fun t => x.2.1 + t) (by decide)) rfl dX12_settled_97 ?_
      refine q_goto 66 (by decide) dX12_settled_100 ?_
      refine q_sub [1, 2, 3, 4, 0] rfl ?_
      cases h
      exact hQ
    · rw [if_pos c] at h
      refine q_aload_n 1 rfl rfl dX12_settled_86 ?_
      refine q_getR (q_shQ0 w hq) (by decide) (by decide) rfl lfX12_397 dX12_settled_87 (r := (q + 5)) (q_wrQ0_11 w hq) ?_
      refine q_iload 4 rfl dX12_settled_90 ?_
      refine q_iload_n 3 rfl rfl dX12_settled_92 ?_
      obtain ⟨hg34, h⟩ := q_guard h
      refine q_iast (q_shQ5 w hq) (q_inb_in hg34) dX12_settled_93 ?_
      obtain ⟨S35, e36, h⟩ := q_bindS h
      refine q_st e36 ?_
      have fx37 : q_Fx x.2.2 S35 := e36 ▸ q_Fx.sI (q_Fx.rf x.2.2)
      refine q_iinc (v := (x.1 + (1 : Int32))) 3 [(3, .int (x.1 + (1 : Int32))), (0, .ref 102), (1, .ref q), (2, .int y2), (4, .int x.2.1)] (by decide) rfl (congrArg (fun t => x.1 + t) (by decide)) rfl dX12_settled_94 ?_
      refine q_iinc (v := (x.2.1 + (1 : Int32))) 4 [(4, .int (x.2.1 + (1 : Int32))), (3, .int (x.1 + (1 : Int32))), (0, .ref 102), (1, .ref q), (2, .int y2)] (by decide) rfl (congrArg (fun t => x.2.1 + t) (by decide)) rfl dX12_settled_97 ?_
      refine q_goto 66 (by decide) dX12_settled_100 ?_
      refine q_sub [2, 3, 4, 1, 0] rfl ?_
      cases h
      exact hQ
theorem lX12_settled_66 {g : QG} {Q : Option Value → QS → Prop} {q : Nat} {y2 : Int32} {r : (Bool × QS) ⊕ (Int32 × QS)} (hq : q_qok q) (hQ : (Sum.elim (fun r0 : Bool × QS => Q (some (.int (q_b r0.1))) r0.2) (fun y : Int32 × QS => q_L g mX12_settled 5 0 0 Q 0 0 29 [(0, .ref 102), (1, .ref q), (2, .int y.1)] [] y.2) r)) : ∀ (c : Nat) (x : Int32 × Int32 × QS), q_Wire x.2.2 → q_it (tX12_settled_66 q y2) c x = some r → q_L g mX12_settled 5 0 0 Q 0 0 66 [(0, .ref 102), (1, .ref q), (2, .int y2), (3, .int x.1), (4, .int x.2.1)] [] x.2.2 := by
  intro c
  induction c with
  | zero => intro x w h; cases h
  | succ c ih =>
    intro x w h
    simp only [q_it] at h
    cases hz : tX12_settled_66 q y2 x with
    | none => rw [hz] at h; cases h
    | some z =>
      rw [hz] at h
      refine sX12_settled_66 w hq hz ?_
      rcases z with z | y
      · cases h; exact hQ
      · have fz := fxtX12_settled_66 hz; exact ih y (w.fx fz) h
theorem usX12_settled_66 {S : QS} {g : QG} {Q : Option Value → QS → Prop} {q : Nat} {y2 : Int32} {y3 : Int32} {y4 : Int32} {r : (Bool × QS) ⊕ (Int32 × QS)} (w : q_Wire S) (hq : q_qok q) (h : uX12_settled_66 S q y2 y3 y4 = some r) (hQ : (Sum.elim (fun r0 : Bool × QS => Q (some (.int (q_b r0.1))) r0.2) (fun y : Int32 × QS => q_L g mX12_settled 5 0 0 Q 0 0 29 [(0, .ref 102), (1, .ref q), (2, .int y.1)] [] y.2) r)) : q_L g mX12_settled 5 0 0 Q 0 0 66 [(0, .ref 102), (1, .ref q), (2, .int y2), (3, .int y3), (4, .int y4)] [] S := by
  obtain ⟨c, hc⟩ := q_run_it h
  exact lX12_settled_66 hq hQ c (y3, y4, S) w hc
set_option maxRecDepth 20000 in
theorem sX12_settled_29 {g : QG} {Q : Option Value → QS → Prop} {q : Nat}  {x : Int32 × QS} {z : (Bool × QS) ⊕ (Int32 × QS)} (w : q_Wire x.2) (hq : q_qok q) (h : tX12_settled_29 q x = some z) (hQ : (Sum.elim (fun r0 : Bool × QS => Q (some (.int (q_b r0.1))) r0.2) (fun y : Int32 × QS => q_L g mX12_settled 5 0 0 Q 0 0 29 [(0, .ref 102), (1, .ref q), (2, .int y.1)] [] y.2) z)) : q_L g mX12_settled 5 0 0 Q 0 0 29 [(0, .ref 102), (1, .ref q), (2, .int x.1)] [] x.2 := by
  unfold tX12_settled_29 at h
  refine q_iload_n 2 rfl rfl dX12_settled_29 ?_
  refine q_aload_n 0 rfl rfl dX12_settled_30 ?_
  refine q_aload_n 1 rfl rfl dX12_settled_31 ?_
  obtain ⟨r38, e39, h⟩ := q_bind h
  refine q_callV (ci := 12) (d := 4) (Mc := mX12_classCount) (kc := 0) (nc := 0) [.ref q] okX12_classCount (q_sh102 w) (by decide) rfl lmX12_236 inX12_classCount seX12_classCount rfl (Nat.le_of_ble_eq_true rfl) (Nat.le_of_ble_eq_true rfl) (Nat.le_refl _) (Nat.le_refl _) dX12_settled_32 (q_L.deep (by decide) (kX12_classCount (Q := fun r S' => r = some (.int r38) ∧ S' = x.2) w hq e39 ⟨rfl, rfl⟩)) (q_kI ?_)
  refine q_icmp_ge 176 (by decide) dX12_settled_35 (fun c => ?_) (fun c => ?_)
  · rw [if_pos c] at h
    refine q_aload_n 1 rfl rfl dX12_settled_176 ?_
    refine q_iconst (v := (-1 : Int32)) (by decide) dX12_settled_177 ?_
    refine q_putI (q_shQ0 w hq) (by decide) (by decide) rfl rfl ⟨rfl, rfl⟩ lfX12_403 dX12_settled_178 ?_
    obtain ⟨S40, e41, h⟩ := q_bindS h
    refine q_st e41 ?_
    have fx42 : q_Fx x.2 S40 := e41 ▸ q_Fx.sI (q_Fx.rf x.2)
    refine q_iconst (v := (0 : Int32)) (by decide) dX12_settled_181 ?_
    refine q_istore_n [(2, .int (0 : Int32)), (0, .ref 102), (1, .ref q)] rfl (by decide) rfl dX12_settled_182 ?_
    refine q_sub [1, 2, 0] rfl ?_
    obtain ⟨r43, e44, h⟩ := q_bind h
    cases h
    exact kX12_settled_183 (w.fx fx42) hq e44 hQ
  · rw [if_neg c] at h
    refine q_aload_n 1 rfl rfl dX12_settled_38 ?_
    refine q_getR (q_shQ0 w hq) (by decide) (by decide) rfl lfX12_244 dX12_settled_39 (r := (q + 1)) (q_wrQ0_7 w hq) ?_
    refine q_iload_n 2 rfl rfl dX12_settled_42 ?_
    obtain ⟨hg45, h⟩ := q_guard h
    refine q_iald (q_shQ1 w hq) (q_inb_in hg45) dX12_settled_43 ?_
    refine q_if_ge 51 (by decide) dX12_settled_44 (fun c => ?_) (fun c => ?_)
    · rw [if_pos c] at h
      refine q_aload_n 1 rfl rfl dX12_settled_51 ?_
      refine q_getR (q_shQ0 w hq) (by decide) (by decide) rfl lfX12_394 dX12_settled_52 (r := (q + 2)) (q_wrQ0_8 w hq) ?_
      refine q_aload_n 1 rfl rfl dX12_settled_55 ?_
      refine q_getR (q_shQ0 w hq) (by decide) (by decide) rfl lfX12_244 dX12_settled_56 (r := (q + 1)) (q_wrQ0_7 w hq) ?_
      refine q_iload_n 2 rfl rfl dX12_settled_59 ?_
      obtain ⟨hg46, h⟩ := q_guard h
      refine q_iald (q_shQ1 w hq) (q_inb_in hg46) dX12_settled_60 ?_
      obtain ⟨hg47, h⟩ := q_guard h
      refine q_iald (q_shQ2 w hq) (q_inb_in hg47) dX12_settled_61 ?_
      refine q_istore_n [(3, .int (x.2.2.1 (q + 2) (x.2.2.1 (q + 1) x.1.toNatClampNeg).toNatClampNeg)), (0, .ref 102), (1, .ref q), (2, .int x.1)] rfl (by decide) rfl dX12_settled_62 ?_
      refine q_iconst (v := (0 : Int32)) (by decide) dX12_settled_63 ?_
      refine q_istore [(4, .int (0 : Int32)), (3, .int (x.2.2.1 (q + 2) (x.2.2.1 (q + 1) x.1.toNatClampNeg).toNatClampNeg)), (0, .ref 102), (1, .ref q), (2, .int x.1)] (by decide) rfl dX12_settled_64 ?_
      refine q_sub [2, 3, 4, 1, 0] rfl ?_
      exact usX12_settled_66 w hq h hQ
    · rw [if_neg c] at h
      refine q_iconst (v := (0 : Int32)) (by decide) dX12_settled_47 ?_
      refine q_goto 62 (by decide) dX12_settled_48 ?_
      refine q_istore_n [(3, .int (0 : Int32)), (0, .ref 102), (1, .ref q), (2, .int x.1)] rfl (by decide) rfl dX12_settled_62 ?_
      refine q_iconst (v := (0 : Int32)) (by decide) dX12_settled_63 ?_
      refine q_istore [(4, .int (0 : Int32)), (3, .int (0 : Int32)), (0, .ref 102), (1, .ref q), (2, .int x.1)] (by decide) rfl dX12_settled_64 ?_
      refine q_sub [2, 3, 4, 1, 0] rfl ?_
      exact usX12_settled_66 w hq h hQ
theorem lX12_settled_29 {g : QG} {Q : Option Value → QS → Prop} {q : Nat}  {r : Bool × QS} (hq : q_qok q) (hQ : Q (some (.int (q_b r.1))) r.2) : ∀ (c : Nat) (x : Int32 × QS), q_Wire x.2 → q_it (tX12_settled_29 q) c x = some r → q_L g mX12_settled 5 0 0 Q 0 0 29 [(0, .ref 102), (1, .ref q), (2, .int x.1)] [] x.2 := by
  intro c
  induction c with
  | zero => intro x w h; cases h
  | succ c ih =>
    intro x w h
    simp only [q_it] at h
    cases hz : tX12_settled_29 q x with
    | none => rw [hz] at h; cases h
    | some z =>
      rw [hz] at h
      refine sX12_settled_29 w hq hz ?_
      rcases z with z | y
      · cases h; exact hQ
      · have fz := fxtX12_settled_29 hz; exact ih y (w.fx fz) h
theorem kX12_settled_29 {S : QS} {g : QG} {Q : Option Value → QS → Prop} {q : Nat} {y2 : Int32} {r : Bool × QS} (w : q_Wire S) (hq : q_qok q) (h : fX12_settled_29 S q y2 = some r) (hQ : Q (some (.int (q_b r.1))) r.2) : q_L g mX12_settled 5 0 0 Q 0 0 29 [(0, .ref 102), (1, .ref q), (2, .int y2)] [] S := by
  obtain ⟨c, hc⟩ := q_run_it h
  exact lX12_settled_29 hq hQ c (y2, S) w hc
set_option maxRecDepth 20000 in
theorem sX12_settled_2 {g : QG} {Q : Option Value → QS → Prop} {q : Nat}  {x : Int32 × QS} {z : (Bool × QS) ⊕ (Int32 × QS)} (w : q_Wire x.2) (hq : q_qok q) (h : tX12_settled_2 q x = some z) (hQ : (Sum.elim (fun r0 : Bool × QS => Q (some (.int (q_b r0.1))) r0.2) (fun y : Int32 × QS => q_L g mX12_settled 5 0 0 Q 0 0 2 [(0, .ref 102), (1, .ref q), (2, .int y.1)] [] y.2) z)) : q_L g mX12_settled 5 0 0 Q 0 0 2 [(0, .ref 102), (1, .ref q), (2, .int x.1)] [] x.2 := by
  unfold tX12_settled_2 at h
  refine q_iload_n 2 rfl rfl dX12_settled_2 ?_
  refine q_bipush (v := (6 : Int32)) (by decide) dX12_settled_3 ?_
  refine q_icmp_ge 27 (by decide) dX12_settled_5 (fun c => ?_) (fun c => ?_)
  · rw [if_pos c] at h
    refine q_iconst (v := (0 : Int32)) (by decide) dX12_settled_27 ?_
    refine q_istore_n [(2, .int (0 : Int32)), (0, .ref 102), (1, .ref q)] rfl (by decide) rfl dX12_settled_28 ?_
    refine q_sub [1, 2, 0] rfl ?_
    obtain ⟨r48, e49, h⟩ := q_bind h
    cases h
    exact kX12_settled_29 w hq e49 hQ
  · rw [if_neg c] at h
    refine q_aload_n 1 rfl rfl dX12_settled_8 ?_
    refine q_getR (q_shQ0 w hq) (by decide) (by decide) rfl lfX12_391 dX12_settled_9 (r := (q + 20)) (q_wrQ0_26 w hq) ?_
    refine q_bipush (v := (48 : Int32)) (by decide) dX12_settled_12 ?_
    refine q_iload_n 2 rfl rfl dX12_settled_14 ?_
    refine q_iadd dX12_settled_15 ?_
    refine q_bipush (v := (10 : Int32)) (by decide) dX12_settled_16 ?_
    refine q_iload_n 2 rfl rfl dX12_settled_18 ?_
    refine q_iadd dX12_settled_19 ?_
    obtain ⟨hg50, h⟩ := q_guard h
    refine q_iast (q_shQ20 w hq) (q_inb_in hg50) dX12_settled_20 ?_
    obtain ⟨S51, e52, h⟩ := q_bindS h
    refine q_st e52 ?_
    have fx53 : q_Fx x.2 S51 := e52 ▸ q_Fx.sI (q_Fx.rf x.2)
    refine q_iinc (v := (x.1 + (1 : Int32))) 2 [(2, .int (x.1 + (1 : Int32))), (0, .ref 102), (1, .ref q)] (by decide) rfl (congrArg (fun t => x.1 + t) (by decide)) rfl dX12_settled_21 ?_
    refine q_goto 2 (by decide) dX12_settled_24 ?_
    refine q_sub [1, 2, 0] rfl ?_
    cases h
    exact hQ
theorem lX12_settled_2 {g : QG} {Q : Option Value → QS → Prop} {q : Nat}  {r : Bool × QS} (hq : q_qok q) (hQ : Q (some (.int (q_b r.1))) r.2) : ∀ (c : Nat) (x : Int32 × QS), q_Wire x.2 → q_it (tX12_settled_2 q) c x = some r → q_L g mX12_settled 5 0 0 Q 0 0 2 [(0, .ref 102), (1, .ref q), (2, .int x.1)] [] x.2 := by
  intro c
  induction c with
  | zero => intro x w h; cases h
  | succ c ih =>
    intro x w h
    simp only [q_it] at h
    cases hz : tX12_settled_2 q x with
    | none => rw [hz] at h; cases h
    | some z =>
      rw [hz] at h
      refine sX12_settled_2 w hq hz ?_
      rcases z with z | y
      · cases h; exact hQ
      · have fz := fxtX12_settled_2 hz; exact ih y (w.fx fz) h
theorem kX12_settled_2 {S : QS} {g : QG} {Q : Option Value → QS → Prop} {q : Nat} {y2 : Int32} {r : Bool × QS} (w : q_Wire S) (hq : q_qok q) (h : fX12_settled_2 S q y2 = some r) (hQ : Q (some (.int (q_b r.1))) r.2) : q_L g mX12_settled 5 0 0 Q 0 0 2 [(0, .ref 102), (1, .ref q), (2, .int y2)] [] S := by
  obtain ⟨c, hc⟩ := q_run_it h
  exact lX12_settled_2 hq hQ c (y2, S) w hc
set_option maxRecDepth 20000 in
theorem kX12_settled {S : QS} {g : QG} {Q : Option Value → QS → Prop} {q : Nat}  {r : Bool × QS} (w : q_Wire S) (hq : q_qok q) (h : fX12_settled S q = some r) (hQ : Q (some (.int (q_b r.1))) r.2) : q_M g mX12_settled 5 0 0 [.ref 102, .ref q] S Q := by
  unfold fX12_settled at h
  show q_L g mX12_settled 5 0 0 Q 0 0 0 [(0, .ref 102), (1, .ref q)] [] S
  refine q_iconst (v := (0 : Int32)) (by decide) dX12_settled_0 ?_
  refine q_istore_n [(2, .int (0 : Int32)), (0, .ref 102), (1, .ref q)] rfl (by decide) rfl dX12_settled_1 ?_
  refine q_sub [1, 2, 0] rfl ?_
  exact kX12_settled_2 w hq h hQ
set_option maxRecDepth 20000 in
theorem kX12_howMany {S : QS} {g : QG} {Q : Option Value → QS → Prop} {q : Nat} {x1 : Int32} {r : Int32} (w : q_Wire S) (hq : q_qok q) (h : fX12_howMany S q x1 = some r) (hQ : Q (some (.int r)) S) : q_M g mX12_howMany 0 0 0 [.ref q, .int x1] S Q := by
  unfold fX12_howMany at h
  show q_L g mX12_howMany 0 0 0 Q 0 0 0 [(0, .ref q), (1, .int x1)] [] S
  refine q_aload_n 0 rfl rfl dX12_howMany_0 ?_
  refine q_getR (q_shQ0 w hq) (by decide) (by decide) rfl lfX12_353 dX12_howMany_1 (r := (q + 15)) (q_wrQ0_21 w hq) ?_
  refine q_iload_n 1 rfl rfl dX12_howMany_4 ?_
  obtain ⟨hg1, h⟩ := q_guard h
  refine q_iald (q_shQ15 w hq) (q_inb_in hg1) dX12_howMany_5 ?_
  refine q_istore_n [(2, .int (S.2.1 (q + 15) x1.toNatClampNeg)), (0, .ref q), (1, .int x1)] rfl (by decide) rfl dX12_howMany_6 ?_
  refine q_iload_n 0 rfl rfl dX12_howMany_7 ?_
  by_cases c2 : (S.2.1 (q + 15) x1.toNatClampNeg) = (3 : Int32) ∨ (S.2.1 (q + 15) x1.toNatClampNeg) = (5 : Int32) ∨ (S.2.1 (q + 15) x1.toNatClampNeg) = (6 : Int32) ∨ (S.2.1 (q + 15) x1.toNatClampNeg) = (18 : Int32) ∨ (S.2.1 (q + 15) x1.toNatClampNeg) = (26 : Int32) ∨ (S.2.1 (q + 15) x1.toNatClampNeg) = (27 : Int32) ∨ (S.2.1 (q + 15) x1.toNatClampNeg) = (31 : Int32) ∨ (S.2.1 (q + 15) x1.toNatClampNeg) = (32 : Int32) ∨ (S.2.1 (q + 15) x1.toNatClampNeg) = (35 : Int32) ∨ (S.2.1 (q + 15) x1.toNatClampNeg) = (37 : Int32) ∨ (S.2.1 (q + 15) x1.toNatClampNeg) = (38 : Int32) ∨ (S.2.1 (q + 15) x1.toNatClampNeg) = (41 : Int32) ∨ (S.2.1 (q + 15) x1.toNatClampNeg) = (42 : Int32) ∨ (S.2.1 (q + 15) x1.toNatClampNeg) = (45 : Int32)
  · rw [if_pos c2] at h
    have K : ∀ (hK : True), q_L g mX12_howMany 0 0 0 Q 0 0 196 [(2, .int (S.2.1 (q + 15) x1.toNatClampNeg)), (0, .ref q), (1, .int x1)] [] S := by
      intro _
      refine q_iconst (v := (1 : Int32)) (by decide) dX12_howMany_196 ?_
      obtain rfl := Option.some.inj h
      exact q_iret rfl rfl dX12_howMany_197 hQ
    rcases c2 with c2 | c2 | c2 | c2 | c2 | c2 | c2 | c2 | c2 | c2 | c2 | c2 | c2 | c2
    · exact q_tabIn (M := mX12_howMany) (pc := 8) (x := (S.2.1 (q + 15) x1.toNatClampNeg)) 196 (by rw [c2]; decide) (by rw [c2]; decide) (by rw [c2]; rfl) (by decide) dX12_howMany_8 (K trivial)
    · exact q_tabIn (M := mX12_howMany) (pc := 8) (x := (S.2.1 (q + 15) x1.toNatClampNeg)) 196 (by rw [c2]; decide) (by rw [c2]; decide) (by rw [c2]; rfl) (by decide) dX12_howMany_8 (K trivial)
    · exact q_tabIn (M := mX12_howMany) (pc := 8) (x := (S.2.1 (q + 15) x1.toNatClampNeg)) 196 (by rw [c2]; decide) (by rw [c2]; decide) (by rw [c2]; rfl) (by decide) dX12_howMany_8 (K trivial)
    · exact q_tabIn (M := mX12_howMany) (pc := 8) (x := (S.2.1 (q + 15) x1.toNatClampNeg)) 196 (by rw [c2]; decide) (by rw [c2]; decide) (by rw [c2]; rfl) (by decide) dX12_howMany_8 (K trivial)
    · exact q_tabIn (M := mX12_howMany) (pc := 8) (x := (S.2.1 (q + 15) x1.toNatClampNeg)) 196 (by rw [c2]; decide) (by rw [c2]; decide) (by rw [c2]; rfl) (by decide) dX12_howMany_8 (K trivial)
    · exact q_tabIn (M := mX12_howMany) (pc := 8) (x := (S.2.1 (q + 15) x1.toNatClampNeg)) 196 (by rw [c2]; decide) (by rw [c2]; decide) (by rw [c2]; rfl) (by decide) dX12_howMany_8 (K trivial)
    · exact q_tabIn (M := mX12_howMany) (pc := 8) (x := (S.2.1 (q + 15) x1.toNatClampNeg)) 196 (by rw [c2]; decide) (by rw [c2]; decide) (by rw [c2]; rfl) (by decide) dX12_howMany_8 (K trivial)
    · exact q_tabIn (M := mX12_howMany) (pc := 8) (x := (S.2.1 (q + 15) x1.toNatClampNeg)) 196 (by rw [c2]; decide) (by rw [c2]; decide) (by rw [c2]; rfl) (by decide) dX12_howMany_8 (K trivial)
    · exact q_tabIn (M := mX12_howMany) (pc := 8) (x := (S.2.1 (q + 15) x1.toNatClampNeg)) 196 (by rw [c2]; decide) (by rw [c2]; decide) (by rw [c2]; rfl) (by decide) dX12_howMany_8 (K trivial)
    · exact q_tabIn (M := mX12_howMany) (pc := 8) (x := (S.2.1 (q + 15) x1.toNatClampNeg)) 196 (by rw [c2]; decide) (by rw [c2]; decide) (by rw [c2]; rfl) (by decide) dX12_howMany_8 (K trivial)
    · exact q_tabIn (M := mX12_howMany) (pc := 8) (x := (S.2.1 (q + 15) x1.toNatClampNeg)) 196 (by rw [c2]; decide) (by rw [c2]; decide) (by rw [c2]; rfl) (by decide) dX12_howMany_8 (K trivial)
    · exact q_tabIn (M := mX12_howMany) (pc := 8) (x := (S.2.1 (q + 15) x1.toNatClampNeg)) 196 (by rw [c2]; decide) (by rw [c2]; decide) (by rw [c2]; rfl) (by decide) dX12_howMany_8 (K trivial)
    · exact q_tabIn (M := mX12_howMany) (pc := 8) (x := (S.2.1 (q + 15) x1.toNatClampNeg)) 196 (by rw [c2]; decide) (by rw [c2]; decide) (by rw [c2]; rfl) (by decide) dX12_howMany_8 (K trivial)
    · exact q_tabIn (M := mX12_howMany) (pc := 8) (x := (S.2.1 (q + 15) x1.toNatClampNeg)) 196 (by rw [c2]; decide) (by rw [c2]; decide) (by rw [c2]; rfl) (by decide) dX12_howMany_8 (K trivial)
  rw [if_neg c2] at h
  by_cases c3 : (S.2.1 (q + 15) x1.toNatClampNeg) = (7 : Int32) ∨ (S.2.1 (q + 15) x1.toNatClampNeg) = (28 : Int32) ∨ (S.2.1 (q + 15) x1.toNatClampNeg) = (29 : Int32) ∨ (S.2.1 (q + 15) x1.toNatClampNeg) = (33 : Int32) ∨ (S.2.1 (q + 15) x1.toNatClampNeg) = (36 : Int32)
  · rw [if_pos c3] at h
    have K : ∀ (hK : True), q_L g mX12_howMany 0 0 0 Q 0 0 198 [(2, .int (S.2.1 (q + 15) x1.toNatClampNeg)), (0, .ref q), (1, .int x1)] [] S := by
      intro _
      refine q_iconst (v := (2 : Int32)) (by decide) dX12_howMany_198 ?_
      obtain rfl := Option.some.inj h
      exact q_iret rfl rfl dX12_howMany_199 hQ
    rcases c3 with c3 | c3 | c3 | c3 | c3
    · exact q_tabIn (M := mX12_howMany) (pc := 8) (x := (S.2.1 (q + 15) x1.toNatClampNeg)) 198 (by rw [c3]; decide) (by rw [c3]; decide) (by rw [c3]; rfl) (by decide) dX12_howMany_8 (K trivial)
    · exact q_tabIn (M := mX12_howMany) (pc := 8) (x := (S.2.1 (q + 15) x1.toNatClampNeg)) 198 (by rw [c3]; decide) (by rw [c3]; decide) (by rw [c3]; rfl) (by decide) dX12_howMany_8 (K trivial)
    · exact q_tabIn (M := mX12_howMany) (pc := 8) (x := (S.2.1 (q + 15) x1.toNatClampNeg)) 198 (by rw [c3]; decide) (by rw [c3]; decide) (by rw [c3]; rfl) (by decide) dX12_howMany_8 (K trivial)
    · exact q_tabIn (M := mX12_howMany) (pc := 8) (x := (S.2.1 (q + 15) x1.toNatClampNeg)) 198 (by rw [c3]; decide) (by rw [c3]; decide) (by rw [c3]; rfl) (by decide) dX12_howMany_8 (K trivial)
    · exact q_tabIn (M := mX12_howMany) (pc := 8) (x := (S.2.1 (q + 15) x1.toNatClampNeg)) 198 (by rw [c3]; decide) (by rw [c3]; decide) (by rw [c3]; rfl) (by decide) dX12_howMany_8 (K trivial)
  rw [if_neg c3] at h
  by_cases c4 : (S.2.1 (q + 15) x1.toNatClampNeg) = (34 : Int32)
  · rw [if_pos c4] at h
    refine q_tabIn (M := mX12_howMany) (pc := 8) (x := (S.2.1 (q + 15) x1.toNatClampNeg)) 200 (by rw [c4]; decide) (by rw [c4]; decide) (by rw [c4]; rfl) (by decide) dX12_howMany_8 ?_
    refine q_iconst (v := (3 : Int32)) (by decide) dX12_howMany_200 ?_
    obtain rfl := Option.some.inj h
    exact q_iret rfl rfl dX12_howMany_201 hQ
  rw [if_neg c4] at h
  by_cases c5 : (S.2.1 (q + 15) x1.toNatClampNeg) = (39 : Int32) ∨ (S.2.1 (q + 15) x1.toNatClampNeg) = (40 : Int32)
  · rw [if_pos c5] at h
    have K : ∀ (hK : True), q_L g mX12_howMany 0 0 0 Q 0 0 202 [(2, .int (S.2.1 (q + 15) x1.toNatClampNeg)), (0, .ref q), (1, .int x1)] [] S := by
      intro _
      refine q_aload_n 1 rfl rfl dX12_howMany_202 ?_
      refine q_getR (q_shQ0 w hq) (by decide) (by decide) rfl lfX12_313 dX12_howMany_203 (r := (q + 8)) (q_wrQ0_14 w hq) ?_
      refine q_aload_n 1 rfl rfl dX12_howMany_206 ?_
      refine q_getR (q_shQ0 w hq) (by decide) (by decide) rfl lfX12_376 dX12_howMany_207 (r := (q + 16)) (q_wrQ0_22 w hq) ?_
      refine q_iload_n 2 rfl rfl dX12_howMany_210 ?_
      obtain ⟨hg6, h⟩ := q_guard h
      refine q_iald (q_shQ16 w hq) (q_inb_in hg6) dX12_howMany_211 ?_
      obtain ⟨hg7, h⟩ := q_guard h
      refine q_iald (q_shQ8 w hq) (q_inb_in hg7) dX12_howMany_212 ?_
      obtain rfl := Option.some.inj h
      exact q_iret rfl rfl dX12_howMany_213 hQ
    rcases c5 with c5 | c5
    · exact q_tabIn (M := mX12_howMany) (pc := 8) (x := (S.2.1 (q + 15) x1.toNatClampNeg)) 202 (by rw [c5]; decide) (by rw [c5]; decide) (by rw [c5]; rfl) (by decide) dX12_howMany_8 (K trivial)
    · exact q_tabIn (M := mX12_howMany) (pc := 8) (x := (S.2.1 (q + 15) x1.toNatClampNeg)) 202 (by rw [c5]; decide) (by rw [c5]; decide) (by rw [c5]; rfl) (by decide) dX12_howMany_8 (K trivial)
  rw [if_neg c5] at h
  have n8 : ¬ (S.2.1 (q + 15) x1.toNatClampNeg) = (3 : Int32) := (fun q => c2 (Or.inl q))
  have n9 : ¬ (S.2.1 (q + 15) x1.toNatClampNeg) = (5 : Int32) := (fun q => c2 (Or.inr (Or.inl q)))
  have n10 : ¬ (S.2.1 (q + 15) x1.toNatClampNeg) = (6 : Int32) := (fun q => c2 (Or.inr (Or.inr (Or.inl q))))
  have n11 : ¬ (S.2.1 (q + 15) x1.toNatClampNeg) = (18 : Int32) := (fun q => c2 (Or.inr (Or.inr (Or.inr (Or.inl q)))))
  have n12 : ¬ (S.2.1 (q + 15) x1.toNatClampNeg) = (26 : Int32) := (fun q => c2 (Or.inr (Or.inr (Or.inr (Or.inr (Or.inl q))))))
  have n13 : ¬ (S.2.1 (q + 15) x1.toNatClampNeg) = (27 : Int32) := (fun q => c2 (Or.inr (Or.inr (Or.inr (Or.inr (Or.inr (Or.inl q)))))))
  have n14 : ¬ (S.2.1 (q + 15) x1.toNatClampNeg) = (31 : Int32) := (fun q => c2 (Or.inr (Or.inr (Or.inr (Or.inr (Or.inr (Or.inr (Or.inl q))))))))
  have n15 : ¬ (S.2.1 (q + 15) x1.toNatClampNeg) = (32 : Int32) := (fun q => c2 (Or.inr (Or.inr (Or.inr (Or.inr (Or.inr (Or.inr (Or.inr (Or.inl q)))))))))
  have n16 : ¬ (S.2.1 (q + 15) x1.toNatClampNeg) = (35 : Int32) := (fun q => c2 (Or.inr (Or.inr (Or.inr (Or.inr (Or.inr (Or.inr (Or.inr (Or.inr (Or.inl q))))))))))
  have n17 : ¬ (S.2.1 (q + 15) x1.toNatClampNeg) = (37 : Int32) := (fun q => c2 (Or.inr (Or.inr (Or.inr (Or.inr (Or.inr (Or.inr (Or.inr (Or.inr (Or.inr (Or.inl q)))))))))))
  have n18 : ¬ (S.2.1 (q + 15) x1.toNatClampNeg) = (38 : Int32) := (fun q => c2 (Or.inr (Or.inr (Or.inr (Or.inr (Or.inr (Or.inr (Or.inr (Or.inr (Or.inr (Or.inr (Or.inl q))))))))))))
  have n19 : ¬ (S.2.1 (q + 15) x1.toNatClampNeg) = (41 : Int32) := (fun q => c2 (Or.inr (Or.inr (Or.inr (Or.inr (Or.inr (Or.inr (Or.inr (Or.inr (Or.inr (Or.inr (Or.inr (Or.inl q)))))))))))))
  have n20 : ¬ (S.2.1 (q + 15) x1.toNatClampNeg) = (42 : Int32) := (fun q => c2 (Or.inr (Or.inr (Or.inr (Or.inr (Or.inr (Or.inr (Or.inr (Or.inr (Or.inr (Or.inr (Or.inr (Or.inr (Or.inl q))))))))))))))
  have n21 : ¬ (S.2.1 (q + 15) x1.toNatClampNeg) = (45 : Int32) := (fun q => c2 (Or.inr (Or.inr (Or.inr (Or.inr (Or.inr (Or.inr (Or.inr (Or.inr (Or.inr (Or.inr (Or.inr (Or.inr (Or.inr (q)))))))))))))))
  have n22 : ¬ (S.2.1 (q + 15) x1.toNatClampNeg) = (7 : Int32) := (fun q => c3 (Or.inl q))
  have n23 : ¬ (S.2.1 (q + 15) x1.toNatClampNeg) = (28 : Int32) := (fun q => c3 (Or.inr (Or.inl q)))
  have n24 : ¬ (S.2.1 (q + 15) x1.toNatClampNeg) = (29 : Int32) := (fun q => c3 (Or.inr (Or.inr (Or.inl q))))
  have n25 : ¬ (S.2.1 (q + 15) x1.toNatClampNeg) = (33 : Int32) := (fun q => c3 (Or.inr (Or.inr (Or.inr (Or.inl q)))))
  have n26 : ¬ (S.2.1 (q + 15) x1.toNatClampNeg) = (36 : Int32) := (fun q => c3 (Or.inr (Or.inr (Or.inr (Or.inr (q))))))
  have n27 : ¬ (S.2.1 (q + 15) x1.toNatClampNeg) = (39 : Int32) := (fun q => c5 (Or.inl q))
  have n28 : ¬ (S.2.1 (q + 15) x1.toNatClampNeg) = (40 : Int32) := (fun q => c5 (Or.inr (q)))
  have K : ∀ (hK : True), q_L g mX12_howMany 0 0 0 Q 0 0 214 [(2, .int (S.2.1 (q + 15) x1.toNatClampNeg)), (0, .ref q), (1, .int x1)] [] S := by
    intro _
    refine q_iload_n 0 rfl rfl dX12_howMany_214 ?_
    refine q_bipush (v := (8 : Int32)) (by decide) dX12_howMany_215 ?_
    refine q_icmp_lt 226 (by decide) dX12_howMany_217 (fun c => ?_) (fun c => ?_)
    · rw [if_pos c] at h
      refine q_iload_n 0 rfl rfl dX12_howMany_226 ?_
      refine q_bipush (v := (20 : Int32)) (by decide) dX12_howMany_227 ?_
      refine q_icmp_lt 242 (by decide) dX12_howMany_229 (fun c => ?_) (fun c => ?_)
      · rw [if_pos c] at h
        refine q_iconst (v := (0 : Int32)) (by decide) dX12_howMany_242 ?_
        obtain rfl := Option.some.inj h
        exact q_iret rfl rfl dX12_howMany_243 hQ
      · rw [if_neg c] at h
        refine q_iload_n 0 rfl rfl dX12_howMany_232 ?_
        refine q_bipush (v := (25 : Int32)) (by decide) dX12_howMany_233 ?_
        refine q_icmp_gt 242 (by decide) dX12_howMany_235 (fun c => ?_) (fun c => ?_)
        · rw [if_pos c] at h
          refine q_iconst (v := (0 : Int32)) (by decide) dX12_howMany_242 ?_
          obtain rfl := Option.some.inj h
          exact q_iret rfl rfl dX12_howMany_243 hQ
        · rw [if_neg c] at h
          refine q_iconst (v := (2 : Int32)) (by decide) dX12_howMany_238 ?_
          refine q_goto 243 (by decide) dX12_howMany_239 ?_
          obtain rfl := Option.some.inj h
          exact q_iret rfl rfl dX12_howMany_243 hQ
    · rw [if_neg c] at h
      refine q_iload_n 0 rfl rfl dX12_howMany_220 ?_
      refine q_bipush (v := (17 : Int32)) (by decide) dX12_howMany_221 ?_
      refine q_icmp_le 238 (by decide) dX12_howMany_223 (fun c => ?_) (fun c => ?_)
      · rw [if_pos c] at h
        refine q_iconst (v := (2 : Int32)) (by decide) dX12_howMany_238 ?_
        refine q_goto 243 (by decide) dX12_howMany_239 ?_
        obtain rfl := Option.some.inj h
        exact q_iret rfl rfl dX12_howMany_243 hQ
      · rw [if_neg c] at h
        refine q_iload_n 0 rfl rfl dX12_howMany_226 ?_
        refine q_bipush (v := (20 : Int32)) (by decide) dX12_howMany_227 ?_
        refine q_icmp_lt 242 (by decide) dX12_howMany_229 (fun c => ?_) (fun c => ?_)
        · rw [if_pos c] at h
          refine q_iconst (v := (0 : Int32)) (by decide) dX12_howMany_242 ?_
          obtain rfl := Option.some.inj h
          exact q_iret rfl rfl dX12_howMany_243 hQ
        · rw [if_neg c] at h
          refine q_iload_n 0 rfl rfl dX12_howMany_232 ?_
          refine q_bipush (v := (25 : Int32)) (by decide) dX12_howMany_233 ?_
          refine q_icmp_gt 242 (by decide) dX12_howMany_235 (fun c => ?_) (fun c => ?_)
          · rw [if_pos c] at h
            refine q_iconst (v := (0 : Int32)) (by decide) dX12_howMany_242 ?_
            obtain rfl := Option.some.inj h
            exact q_iret rfl rfl dX12_howMany_243 hQ
          · rw [if_neg c] at h
            refine q_iconst (v := (2 : Int32)) (by decide) dX12_howMany_238 ?_
            refine q_goto 243 (by decide) dX12_howMany_239 ?_
            obtain rfl := Option.some.inj h
            exact q_iret rfl rfl dX12_howMany_243 hQ
  by_cases n29 : (S.2.1 (q + 15) x1.toNatClampNeg) = (4 : Int32)
  · exact q_tabIn (M := mX12_howMany) (pc := 8) (x := (S.2.1 (q + 15) x1.toNatClampNeg)) 214 (by rw [n29]; decide) (by rw [n29]; decide) (by rw [n29]; rfl) (by decide) dX12_howMany_8 (K trivial)
  by_cases n30 : (S.2.1 (q + 15) x1.toNatClampNeg) = (8 : Int32)
  · exact q_tabIn (M := mX12_howMany) (pc := 8) (x := (S.2.1 (q + 15) x1.toNatClampNeg)) 214 (by rw [n30]; decide) (by rw [n30]; decide) (by rw [n30]; rfl) (by decide) dX12_howMany_8 (K trivial)
  by_cases n31 : (S.2.1 (q + 15) x1.toNatClampNeg) = (9 : Int32)
  · exact q_tabIn (M := mX12_howMany) (pc := 8) (x := (S.2.1 (q + 15) x1.toNatClampNeg)) 214 (by rw [n31]; decide) (by rw [n31]; decide) (by rw [n31]; rfl) (by decide) dX12_howMany_8 (K trivial)
  by_cases n32 : (S.2.1 (q + 15) x1.toNatClampNeg) = (10 : Int32)
  · exact q_tabIn (M := mX12_howMany) (pc := 8) (x := (S.2.1 (q + 15) x1.toNatClampNeg)) 214 (by rw [n32]; decide) (by rw [n32]; decide) (by rw [n32]; rfl) (by decide) dX12_howMany_8 (K trivial)
  by_cases n33 : (S.2.1 (q + 15) x1.toNatClampNeg) = (11 : Int32)
  · exact q_tabIn (M := mX12_howMany) (pc := 8) (x := (S.2.1 (q + 15) x1.toNatClampNeg)) 214 (by rw [n33]; decide) (by rw [n33]; decide) (by rw [n33]; rfl) (by decide) dX12_howMany_8 (K trivial)
  by_cases n34 : (S.2.1 (q + 15) x1.toNatClampNeg) = (12 : Int32)
  · exact q_tabIn (M := mX12_howMany) (pc := 8) (x := (S.2.1 (q + 15) x1.toNatClampNeg)) 214 (by rw [n34]; decide) (by rw [n34]; decide) (by rw [n34]; rfl) (by decide) dX12_howMany_8 (K trivial)
  by_cases n35 : (S.2.1 (q + 15) x1.toNatClampNeg) = (13 : Int32)
  · exact q_tabIn (M := mX12_howMany) (pc := 8) (x := (S.2.1 (q + 15) x1.toNatClampNeg)) 214 (by rw [n35]; decide) (by rw [n35]; decide) (by rw [n35]; rfl) (by decide) dX12_howMany_8 (K trivial)
  by_cases n36 : (S.2.1 (q + 15) x1.toNatClampNeg) = (14 : Int32)
  · exact q_tabIn (M := mX12_howMany) (pc := 8) (x := (S.2.1 (q + 15) x1.toNatClampNeg)) 214 (by rw [n36]; decide) (by rw [n36]; decide) (by rw [n36]; rfl) (by decide) dX12_howMany_8 (K trivial)
  by_cases n37 : (S.2.1 (q + 15) x1.toNatClampNeg) = (15 : Int32)
  · exact q_tabIn (M := mX12_howMany) (pc := 8) (x := (S.2.1 (q + 15) x1.toNatClampNeg)) 214 (by rw [n37]; decide) (by rw [n37]; decide) (by rw [n37]; rfl) (by decide) dX12_howMany_8 (K trivial)
  by_cases n38 : (S.2.1 (q + 15) x1.toNatClampNeg) = (16 : Int32)
  · exact q_tabIn (M := mX12_howMany) (pc := 8) (x := (S.2.1 (q + 15) x1.toNatClampNeg)) 214 (by rw [n38]; decide) (by rw [n38]; decide) (by rw [n38]; rfl) (by decide) dX12_howMany_8 (K trivial)
  by_cases n39 : (S.2.1 (q + 15) x1.toNatClampNeg) = (17 : Int32)
  · exact q_tabIn (M := mX12_howMany) (pc := 8) (x := (S.2.1 (q + 15) x1.toNatClampNeg)) 214 (by rw [n39]; decide) (by rw [n39]; decide) (by rw [n39]; rfl) (by decide) dX12_howMany_8 (K trivial)
  by_cases n40 : (S.2.1 (q + 15) x1.toNatClampNeg) = (19 : Int32)
  · exact q_tabIn (M := mX12_howMany) (pc := 8) (x := (S.2.1 (q + 15) x1.toNatClampNeg)) 214 (by rw [n40]; decide) (by rw [n40]; decide) (by rw [n40]; rfl) (by decide) dX12_howMany_8 (K trivial)
  by_cases n41 : (S.2.1 (q + 15) x1.toNatClampNeg) = (20 : Int32)
  · exact q_tabIn (M := mX12_howMany) (pc := 8) (x := (S.2.1 (q + 15) x1.toNatClampNeg)) 214 (by rw [n41]; decide) (by rw [n41]; decide) (by rw [n41]; rfl) (by decide) dX12_howMany_8 (K trivial)
  by_cases n42 : (S.2.1 (q + 15) x1.toNatClampNeg) = (21 : Int32)
  · exact q_tabIn (M := mX12_howMany) (pc := 8) (x := (S.2.1 (q + 15) x1.toNatClampNeg)) 214 (by rw [n42]; decide) (by rw [n42]; decide) (by rw [n42]; rfl) (by decide) dX12_howMany_8 (K trivial)
  by_cases n43 : (S.2.1 (q + 15) x1.toNatClampNeg) = (22 : Int32)
  · exact q_tabIn (M := mX12_howMany) (pc := 8) (x := (S.2.1 (q + 15) x1.toNatClampNeg)) 214 (by rw [n43]; decide) (by rw [n43]; decide) (by rw [n43]; rfl) (by decide) dX12_howMany_8 (K trivial)
  by_cases n44 : (S.2.1 (q + 15) x1.toNatClampNeg) = (23 : Int32)
  · exact q_tabIn (M := mX12_howMany) (pc := 8) (x := (S.2.1 (q + 15) x1.toNatClampNeg)) 214 (by rw [n44]; decide) (by rw [n44]; decide) (by rw [n44]; rfl) (by decide) dX12_howMany_8 (K trivial)
  by_cases n45 : (S.2.1 (q + 15) x1.toNatClampNeg) = (24 : Int32)
  · exact q_tabIn (M := mX12_howMany) (pc := 8) (x := (S.2.1 (q + 15) x1.toNatClampNeg)) 214 (by rw [n45]; decide) (by rw [n45]; decide) (by rw [n45]; rfl) (by decide) dX12_howMany_8 (K trivial)
  by_cases n46 : (S.2.1 (q + 15) x1.toNatClampNeg) = (25 : Int32)
  · exact q_tabIn (M := mX12_howMany) (pc := 8) (x := (S.2.1 (q + 15) x1.toNatClampNeg)) 214 (by rw [n46]; decide) (by rw [n46]; decide) (by rw [n46]; rfl) (by decide) dX12_howMany_8 (K trivial)
  by_cases n47 : (S.2.1 (q + 15) x1.toNatClampNeg) = (30 : Int32)
  · exact q_tabIn (M := mX12_howMany) (pc := 8) (x := (S.2.1 (q + 15) x1.toNatClampNeg)) 214 (by rw [n47]; decide) (by rw [n47]; decide) (by rw [n47]; rfl) (by decide) dX12_howMany_8 (K trivial)
  by_cases n48 : (S.2.1 (q + 15) x1.toNatClampNeg) = (43 : Int32)
  · exact q_tabIn (M := mX12_howMany) (pc := 8) (x := (S.2.1 (q + 15) x1.toNatClampNeg)) 214 (by rw [n48]; decide) (by rw [n48]; decide) (by rw [n48]; rfl) (by decide) dX12_howMany_8 (K trivial)
  by_cases n49 : (S.2.1 (q + 15) x1.toNatClampNeg) = (44 : Int32)
  · exact q_tabIn (M := mX12_howMany) (pc := 8) (x := (S.2.1 (q + 15) x1.toNatClampNeg)) 214 (by rw [n49]; decide) (by rw [n49]; decide) (by rw [n49]; rfl) (by decide) dX12_howMany_8 (K trivial)
  exact q_tabOut (M := mX12_howMany) (pc := 8) (x := (S.2.1 (q + 15) x1.toNatClampNeg)) 214 (by have := lv_neT (a := 3) n8 (by decide); have := lv_neT (a := 5) n9 (by decide); have := lv_neT (a := 6) n10 (by decide); have := lv_neT (a := 18) n11 (by decide); have := lv_neT (a := 26) n12 (by decide); have := lv_neT (a := 27) n13 (by decide); have := lv_neT (a := 31) n14 (by decide); have := lv_neT (a := 32) n15 (by decide); have := lv_neT (a := 35) n16 (by decide); have := lv_neT (a := 37) n17 (by decide); have := lv_neT (a := 38) n18 (by decide); have := lv_neT (a := 41) n19 (by decide); have := lv_neT (a := 42) n20 (by decide); have := lv_neT (a := 45) n21 (by decide); have := lv_neT (a := 7) n22 (by decide); have := lv_neT (a := 28) n23 (by decide); have := lv_neT (a := 29) n24 (by decide); have := lv_neT (a := 33) n25 (by decide); have := lv_neT (a := 36) n26 (by decide); have := lv_neT (a := 34) c4 (by decide); have := lv_neT (a := 39) n27 (by decide); have := lv_neT (a := 40) n28 (by decide); have := lv_neT (a := 4) n29 (by decide); have := lv_neT (a := 8) n30 (by decide); have := lv_neT (a := 9) n31 (by decide); have := lv_neT (a := 10) n32 (by decide); have := lv_neT (a := 11) n33 (by decide); have := lv_neT (a := 12) n34 (by decide); have := lv_neT (a := 13) n35 (by decide); have := lv_neT (a := 14) n36 (by decide); have := lv_neT (a := 15) n37 (by decide); have := lv_neT (a := 16) n38 (by decide); have := lv_neT (a := 17) n39 (by decide); have := lv_neT (a := 19) n40 (by decide); have := lv_neT (a := 20) n41 (by decide); have := lv_neT (a := 21) n42 (by decide); have := lv_neT (a := 22) n43 (by decide); have := lv_neT (a := 23) n44 (by decide); have := lv_neT (a := 24) n45 (by decide); have := lv_neT (a := 25) n46 (by decide); have := lv_neT (a := 30) n47 (by decide); have := lv_neT (a := 43) n48 (by decide); have := lv_neT (a := 44) n49 (by decide); omega) (by decide) dX12_howMany_8 (K trivial)
