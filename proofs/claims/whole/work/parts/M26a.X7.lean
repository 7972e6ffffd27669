set_option maxRecDepth 20000 in
theorem kX7_takesPart_28 {S : QS} {g : QG} {Q : Option Value → QS → Prop}  {y1 : Int32} {y2 : Int32} {r : Bool × QS} (w : q_Wire S) (h : fX7_takesPart_28 S y1 y2 = some r) (hQ : Q (some (.int (q_b r.1))) r.2) : q_L g mX7_takesPart 7 0 0 Q 0 0 28 [(0, .ref 77), (1, .int y1), (2, .int y2)] [] S := by
  unfold fX7_takesPart_28 at h
  refine q_aload_n 0 rfl rfl dX7_takesPart_28 ?_
  refine q_dup rfl dX7_takesPart_29 ?_
  refine q_getI (q_sh77 w) (by decide) (by decide) rfl lfX7_21 dX7_takesPart_30 ?_
  refine q_iconst (v := (1 : Int32)) (by decide) dX7_takesPart_33 ?_
  refine q_iadd dX7_takesPart_34 ?_
  refine q_putI (q_sh77 w) (by decide) (by decide) rfl rfl ⟨rfl, rfl⟩ lfX7_21 dX7_takesPart_35 ?_
  obtain ⟨S1, e2, h⟩ := q_bindS h
  refine q_st e2 ?_
  have fx3 : q_Fx S S1 := e2 ▸ q_Fx.sI (q_Fx.rf S)
  refine q_aload_n 0 rfl rfl dX7_takesPart_38 ?_
  refine q_dup rfl dX7_takesPart_39 ?_
  refine q_getI (q_sh77 (w.fx fx3)) (by decide) (by decide) rfl lfX7_25 dX7_takesPart_40 ?_
  refine q_iload_n 2 rfl rfl dX7_takesPart_43 ?_
  refine q_bipush (v := (123 : Int32)) (by decide) dX7_takesPart_44 ?_
  obtain ⟨v4, hv, h⟩ := q_bind h
  have K1 : q_L g mX7_takesPart 7 0 0 Q 0 0 54 [(0, .ref 77), (1, .int y1), (2, .int y2)] [.int (q_b v4), .int (S1.2.1 77 3), .ref 77] S1 := by
    refine q_iadd dX7_takesPart_54 ?_
    refine q_putI (q_sh77 (w.fx fx3)) (by decide) (by decide) rfl rfl ⟨rfl, rfl⟩ lfX7_25 dX7_takesPart_55 ?_
    obtain ⟨S5, e6, h⟩ := q_bindS h
    refine q_st e6 ?_
    have fx7 : q_Fx S S5 := e6 ▸ q_Fx.sI (fx3)
    refine q_iload_n 2 rfl rfl dX7_takesPart_58 ?_
    by_cases c8 : y2 = (67 : Int32)
    · rw [if_pos c8] at h
      refine q_lookup (M := mX7_takesPart) (pc := 59) (x := y2) 159 (by decide) (by rw [c8] <;> rfl) (by decide) dX7_takesPart_59 ?_
      refine q_aload_n 0 rfl rfl dX7_takesPart_159 ?_
      refine q_getR (q_sh77 (w.fx fx7)) (by decide) (by decide) rfl lfX7_17 dX7_takesPart_160 (r := 2) (q_wr77_0 (w.fx fx7)) ?_
      refine q_iload_n 1 rfl rfl dX7_takesPart_163 ?_
      obtain ⟨r9, e10, h⟩ := q_bind h
      refine q_callV (ci := 8) (d := 6) (Mc := mX8_isClassName) (kc := 0) (nc := 0) [.int y1] okX8_isClassName (q_sh2 (w.fx fx7)) (by decide) rfl lmX7_64 inX8_isClassName seX8_isClassName rfl (Nat.le_of_ble_eq_true rfl) (Nat.le_of_ble_eq_true rfl) (Nat.le_refl _) (Nat.le_refl _) dX7_takesPart_164 (q_L.deep (by decide) (kX8_isClassName (Q := fun r S' => r = some (.int (q_b r9)) ∧ S' = S5) (w.fx fx7) e10 ⟨rfl, rfl⟩)) (q_kI ?_)
      obtain rfl := Option.some.inj h
      exact q_iret rfl (q_b_nar _) dX7_takesPart_167 hQ
    rw [if_neg c8] at h
    by_cases c11 : y2 = (69 : Int32)
    · rw [if_pos c11] at h
      refine q_lookup (M := mX7_takesPart) (pc := 59) (x := y2) 227 (by decide) (by rw [c11] <;> rfl) (by decide) dX7_takesPart_59 ?_
      refine q_aload_n 0 rfl rfl dX7_takesPart_227 ?_
      refine q_getR (q_sh77 (w.fx fx7)) (by decide) (by decide) rfl lfX7_17 dX7_takesPart_228 (r := 2) (q_wr77_0 (w.fx fx7)) ?_
      refine q_iload_n 1 rfl rfl dX7_takesPart_231 ?_
      obtain ⟨r12, e13, h⟩ := q_bind h
      refine q_callV (ci := 8) (d := 6) (Mc := mX8_isClassName) (kc := 0) (nc := 0) [.int y1] okX8_isClassName (q_sh2 (w.fx fx7)) (by decide) rfl lmX7_64 inX8_isClassName seX8_isClassName rfl (Nat.le_of_ble_eq_true rfl) (Nat.le_of_ble_eq_true rfl) (Nat.le_refl _) (Nat.le_refl _) dX7_takesPart_232 (q_L.deep (by decide) (kX8_isClassName (Q := fun r S' => r = some (.int (q_b r12)) ∧ S' = S5) (w.fx fx7) e13 ⟨rfl, rfl⟩)) (q_kI ?_)
      refine q_if_ne 251 (by decide) dX7_takesPart_235 (fun c => ?_) (fun c => ?_)
      · have c := q_b_n.mp c; rw [q_if1 c] at h
        refine q_iconst (v := (1 : Int32)) (by decide) dX7_takesPart_251 ?_
        refine q_goto 256 (by decide) dX7_takesPart_252 ?_
        obtain rfl := Option.some.inj h
        exact q_iret rfl (by decide) dX7_takesPart_256 hQ
      · have c := q_b_0.mp c; rw [q_if0 c] at h
        refine q_aload_n 0 rfl rfl dX7_takesPart_238 ?_
        refine q_getR (q_sh77 (w.fx fx7)) (by decide) (by decide) rfl lfX7_17 dX7_takesPart_239 (r := 2) (q_wr77_0 (w.fx fx7)) ?_
        refine q_iload_n 1 rfl rfl dX7_takesPart_242 ?_
        refine q_ldcS (j := 5) (r := 1000010) rfl rfl dX7_takesPart_243 ?_
        obtain ⟨r14, e15, h⟩ := q_bind h
        refine q_callV (ci := 8) (d := 6) (Mc := mX8_isWord) (kc := 0) (nc := 0) [.int y1, .ref 1000010] okX8_isWord (q_sh2 (w.fx fx7)) (by decide) rfl lmX7_69 inX8_isWord seX8_isWord rfl (Nat.le_of_ble_eq_true rfl) (Nat.le_of_ble_eq_true rfl) (Nat.le_refl _) (Nat.le_refl _) dX7_takesPart_245 (q_L.deep (by decide) (kX8_isWord (Q := fun r S' => r = some (.int (q_b r14)) ∧ S' = S5) (w.fx fx7) e15 ⟨rfl, rfl⟩)) (q_kI ?_)
        refine q_if_eq 255 (by decide) dX7_takesPart_248 (fun c => ?_) (fun c => ?_)
        · have c := q_b_0.mp c; rw [q_if0 c] at h
          refine q_iconst (v := (0 : Int32)) (by decide) dX7_takesPart_255 ?_
          obtain rfl := Option.some.inj h
          exact q_iret rfl (by decide) dX7_takesPart_256 hQ
        · have c := q_b_n.mp c; rw [q_if1 c] at h
          refine q_iconst (v := (1 : Int32)) (by decide) dX7_takesPart_251 ?_
          refine q_goto 256 (by decide) dX7_takesPart_252 ?_
          obtain rfl := Option.some.inj h
          exact q_iret rfl (by decide) dX7_takesPart_256 hQ
    rw [if_neg c11] at h
    by_cases c16 : y2 = (70 : Int32)
    · rw [if_pos c16] at h
      refine q_lookup (M := mX7_takesPart) (pc := 59) (x := y2) 287 (by decide) (by rw [c16] <;> rfl) (by decide) dX7_takesPart_59 ?_
      refine q_aload_n 0 rfl rfl dX7_takesPart_287 ?_
      refine q_getR (q_sh77 (w.fx fx7)) (by decide) (by decide) rfl lfX7_17 dX7_takesPart_288 (r := 2) (q_wr77_0 (w.fx fx7)) ?_
      refine q_iload_n 1 rfl rfl dX7_takesPart_291 ?_
      obtain ⟨r17, e18, h⟩ := q_bind h
      refine q_callV (ci := 8) (d := 6) (Mc := mX8_isReference) (kc := 0) (nc := 0) [.int y1] okX8_isReference (q_sh2 (w.fx fx7)) (by decide) rfl lmX7_80 inX8_isReference seX8_isReference rfl (Nat.le_of_ble_eq_true rfl) (Nat.le_of_ble_eq_true rfl) (Nat.le_refl _) (Nat.le_refl _) dX7_takesPart_292 (q_L.deep (by decide) (kX8_isReference (Q := fun r S' => r = some (.int (q_b r17)) ∧ S' = S5) (w.fx fx7) e18 ⟨rfl, rfl⟩)) (q_kI ?_)
      obtain rfl := Option.some.inj h
      exact q_iret rfl (q_b_nar _) dX7_takesPart_295 hQ
    rw [if_neg c16] at h
    by_cases c19 : y2 = (78 : Int32)
    · rw [if_pos c19] at h
      refine q_lookup (M := mX7_takesPart) (pc := 59) (x := y2) 218 (by decide) (by rw [c19] <;> rfl) (by decide) dX7_takesPart_59 ?_
      refine q_aload_n 0 rfl rfl dX7_takesPart_218 ?_
      refine q_getR (q_sh77 (w.fx fx7)) (by decide) (by decide) rfl lfX7_17 dX7_takesPart_219 (r := 2) (q_wr77_0 (w.fx fx7)) ?_
      refine q_iload_n 1 rfl rfl dX7_takesPart_222 ?_
      obtain ⟨r20, e21, h⟩ := q_bind h
      refine q_callV (ci := 8) (d := 6) (Mc := mX8_isNumber) (kc := 0) (nc := 0) [.int y1] okX8_isNumber (q_sh2 (w.fx fx7)) (by decide) rfl lmX7_75 inX8_isNumber seX8_isNumber rfl (Nat.le_of_ble_eq_true rfl) (Nat.le_of_ble_eq_true rfl) (Nat.le_refl _) (Nat.le_refl _) dX7_takesPart_223 (q_L.deep (by decide) (kX8_isNumber (Q := fun r S' => r = some (.int (q_b r20)) ∧ S' = S5) (w.fx fx7) e21 ⟨rfl, rfl⟩)) (q_kI ?_)
      obtain rfl := Option.some.inj h
      exact q_iret rfl (q_b_nar _) dX7_takesPart_226 hQ
    rw [if_neg c19] at h
    by_cases c22 : y2 = (80 : Int32)
    · rw [if_pos c22] at h
      refine q_lookup (M := mX7_takesPart) (pc := 59) (x := y2) 148 (by decide) (by rw [c22] <;> rfl) (by decide) dX7_takesPart_59 ?_
      refine q_iconst (v := (1 : Int32)) (by decide) dX7_takesPart_148 ?_
      obtain rfl := Option.some.inj h
      exact q_iret rfl (by decide) dX7_takesPart_149 hQ
    rw [if_neg c22] at h
    by_cases c23 : y2 = (82 : Int32)
    · rw [if_pos c23] at h
      refine q_lookup (M := mX7_takesPart) (pc := 59) (x := y2) 188 (by decide) (by rw [c23] <;> rfl) (by decide) dX7_takesPart_59 ?_
      refine q_aload_n 0 rfl rfl dX7_takesPart_188 ?_
      refine q_getR (q_sh77 (w.fx fx7)) (by decide) (by decide) rfl lfX7_17 dX7_takesPart_189 (r := 2) (q_wr77_0 (w.fx fx7)) ?_
      refine q_iload_n 1 rfl rfl dX7_takesPart_192 ?_
      obtain ⟨r24, e25, h⟩ := q_bind h
      refine q_callV (ci := 8) (d := 6) (Mc := mX8_isType) (kc := 0) (nc := 0) [.int y1] okX8_isType (q_sh2 (w.fx fx7)) (by decide) rfl lmX7_58 inX8_isType seX8_isType rfl (Nat.le_of_ble_eq_true rfl) (Nat.le_of_ble_eq_true rfl) (Nat.le_refl _) (Nat.le_refl _) dX7_takesPart_193 (q_L.deep (by decide) (kX8_isType (Q := fun r S' => r = some (.int (q_b r24)) ∧ S' = S5) (w.fx fx7) e25 ⟨rfl, rfl⟩)) (q_kI ?_)
      refine q_if_ne 212 (by decide) dX7_takesPart_196 (fun c => ?_) (fun c => ?_)
      · have c := q_b_n.mp c; rw [q_if1 c] at h
        refine q_iconst (v := (1 : Int32)) (by decide) dX7_takesPart_212 ?_
        refine q_goto 217 (by decide) dX7_takesPart_213 ?_
        obtain rfl := Option.some.inj h
        exact q_iret rfl (by decide) dX7_takesPart_217 hQ
      · have c := q_b_0.mp c; rw [q_if0 c] at h
        refine q_aload_n 0 rfl rfl dX7_takesPart_199 ?_
        refine q_getR (q_sh77 (w.fx fx7)) (by decide) (by decide) rfl lfX7_17 dX7_takesPart_200 (r := 2) (q_wr77_0 (w.fx fx7)) ?_
        refine q_iload_n 1 rfl rfl dX7_takesPart_203 ?_
        refine q_ldcS (j := 4) (r := 1000008) rfl rfl dX7_takesPart_204 ?_
        obtain ⟨r26, e27, h⟩ := q_bind h
        refine q_callV (ci := 8) (d := 6) (Mc := mX8_isWord) (kc := 0) (nc := 0) [.int y1, .ref 1000008] okX8_isWord (q_sh2 (w.fx fx7)) (by decide) rfl lmX7_69 inX8_isWord seX8_isWord rfl (Nat.le_of_ble_eq_true rfl) (Nat.le_of_ble_eq_true rfl) (Nat.le_refl _) (Nat.le_refl _) dX7_takesPart_206 (q_L.deep (by decide) (kX8_isWord (Q := fun r S' => r = some (.int (q_b r26)) ∧ S' = S5) (w.fx fx7) e27 ⟨rfl, rfl⟩)) (q_kI ?_)
        refine q_if_eq 216 (by decide) dX7_takesPart_209 (fun c => ?_) (fun c => ?_)
        · have c := q_b_0.mp c; rw [q_if0 c] at h
          refine q_iconst (v := (0 : Int32)) (by decide) dX7_takesPart_216 ?_
          obtain rfl := Option.some.inj h
          exact q_iret rfl (by decide) dX7_takesPart_217 hQ
        · have c := q_b_n.mp c; rw [q_if1 c] at h
          refine q_iconst (v := (1 : Int32)) (by decide) dX7_takesPart_212 ?_
          refine q_goto 217 (by decide) dX7_takesPart_213 ?_
          obtain rfl := Option.some.inj h
          exact q_iret rfl (by decide) dX7_takesPart_217 hQ
    rw [if_neg c23] at h
    by_cases c28 : y2 = (84 : Int32)
    · rw [if_pos c28] at h
      refine q_lookup (M := mX7_takesPart) (pc := 59) (x := y2) 179 (by decide) (by rw [c28] <;> rfl) (by decide) dX7_takesPart_59 ?_
      refine q_aload_n 0 rfl rfl dX7_takesPart_179 ?_
      refine q_getR (q_sh77 (w.fx fx7)) (by decide) (by decide) rfl lfX7_17 dX7_takesPart_180 (r := 2) (q_wr77_0 (w.fx fx7)) ?_
      refine q_iload_n 1 rfl rfl dX7_takesPart_183 ?_
      obtain ⟨r29, e30, h⟩ := q_bind h
      refine q_callV (ci := 8) (d := 6) (Mc := mX8_isType) (kc := 0) (nc := 0) [.int y1] okX8_isType (q_sh2 (w.fx fx7)) (by decide) rfl lmX7_58 inX8_isType seX8_isType rfl (Nat.le_of_ble_eq_true rfl) (Nat.le_of_ble_eq_true rfl) (Nat.le_refl _) (Nat.le_refl _) dX7_takesPart_184 (q_L.deep (by decide) (kX8_isType (Q := fun r S' => r = some (.int (q_b r29)) ∧ S' = S5) (w.fx fx7) e30 ⟨rfl, rfl⟩)) (q_kI ?_)
      obtain rfl := Option.some.inj h
      exact q_iret rfl (q_b_nar _) dX7_takesPart_187 hQ
    rw [if_neg c28] at h
    by_cases c31 : y2 = (89 : Int32)
    · rw [if_pos c31] at h
      refine q_lookup (M := mX7_takesPart) (pc := 59) (x := y2) 257 (by decide) (by rw [c31] <;> rfl) (by decide) dX7_takesPart_59 ?_
      refine q_aload_n 0 rfl rfl dX7_takesPart_257 ?_
      refine q_getR (q_sh77 (w.fx fx7)) (by decide) (by decide) rfl lfX7_17 dX7_takesPart_258 (r := 2) (q_wr77_0 (w.fx fx7)) ?_
      refine q_iload_n 1 rfl rfl dX7_takesPart_261 ?_
      obtain ⟨r32, e33, h⟩ := q_bind h
      refine q_callV (ci := 8) (d := 6) (Mc := mX8_isType) (kc := 0) (nc := 0) [.int y1] okX8_isType (q_sh2 (w.fx fx7)) (by decide) rfl lmX7_58 inX8_isType seX8_isType rfl (Nat.le_of_ble_eq_true rfl) (Nat.le_of_ble_eq_true rfl) (Nat.le_refl _) (Nat.le_refl _) dX7_takesPart_262 (q_L.deep (by decide) (kX8_isType (Q := fun r S' => r = some (.int (q_b r32)) ∧ S' = S5) (w.fx fx7) e33 ⟨rfl, rfl⟩)) (q_kI ?_)
      refine q_if_eq 285 (by decide) dX7_takesPart_265 (fun c => ?_) (fun c => ?_)
      · have c := q_b_0.mp c; rw [q_if0 c] at h
        refine q_iconst (v := (0 : Int32)) (by decide) dX7_takesPart_285 ?_
        obtain rfl := Option.some.inj h
        exact q_iret rfl (by decide) dX7_takesPart_286 hQ
      · have c := q_b_n.mp c; rw [q_if1 c] at h
        refine q_aload_n 0 rfl rfl dX7_takesPart_268 ?_
        refine q_getR (q_sh77 (w.fx fx7)) (by decide) (by decide) rfl lfX7_17 dX7_takesPart_269 (r := 2) (q_wr77_0 (w.fx fx7)) ?_
        refine q_iload_n 1 rfl rfl dX7_takesPart_272 ?_
        refine q_ldcS (j := 5) (r := 1000010) rfl rfl dX7_takesPart_273 ?_
        obtain ⟨r34, e35, h⟩ := q_bind h
        refine q_callV (ci := 8) (d := 6) (Mc := mX8_isWord) (kc := 0) (nc := 0) [.int y1, .ref 1000010] okX8_isWord (q_sh2 (w.fx fx7)) (by decide) rfl lmX7_69 inX8_isWord seX8_isWord rfl (Nat.le_of_ble_eq_true rfl) (Nat.le_of_ble_eq_true rfl) (Nat.le_refl _) (Nat.le_refl _) dX7_takesPart_275 (q_L.deep (by decide) (kX8_isWord (Q := fun r S' => r = some (.int (q_b r34)) ∧ S' = S5) (w.fx fx7) e35 ⟨rfl, rfl⟩)) (q_kI ?_)
        refine q_if_ne 285 (by decide) dX7_takesPart_278 (fun c => ?_) (fun c => ?_)
        · have c := q_b_n.mp c; rw [q_if1 c] at h
          refine q_iconst (v := (0 : Int32)) (by decide) dX7_takesPart_285 ?_
          obtain rfl := Option.some.inj h
          exact q_iret rfl (by decide) dX7_takesPart_286 hQ
        · have c := q_b_0.mp c; rw [q_if0 c] at h
          refine q_iconst (v := (1 : Int32)) (by decide) dX7_takesPart_281 ?_
          refine q_goto 286 (by decide) dX7_takesPart_282 ?_
          obtain rfl := Option.some.inj h
          exact q_iret rfl (by decide) dX7_takesPart_286 hQ
    rw [if_neg c31] at h
    by_cases c36 : y2 = (110 : Int32)
    · rw [if_pos c36] at h
      refine q_lookup (M := mX7_takesPart) (pc := 59) (x := y2) 150 (by decide) (by rw [c36] <;> rfl) (by decide) dX7_takesPart_59 ?_
      refine q_aload_n 0 rfl rfl dX7_takesPart_150 ?_
      refine q_getR (q_sh77 (w.fx fx7)) (by decide) (by decide) rfl lfX7_17 dX7_takesPart_151 (r := 2) (q_wr77_0 (w.fx fx7)) ?_
      refine q_iload_n 1 rfl rfl dX7_takesPart_154 ?_
      obtain ⟨r37, e38, h⟩ := q_bind h
      refine q_callV (ci := 8) (d := 6) (Mc := mX8_isName) (kc := 0) (nc := 0) [.int y1] okX8_isName (q_sh2 (w.fx fx7)) (by decide) rfl lmX7_61 inX8_isName seX8_isName rfl (Nat.le_of_ble_eq_true rfl) (Nat.le_of_ble_eq_true rfl) (Nat.le_refl _) (Nat.le_refl _) dX7_takesPart_155 (q_L.deep (by decide) (kX8_isName (Q := fun r S' => r = some (.int (q_b r37)) ∧ S' = S5) (w.fx fx7) e38 ⟨rfl, rfl⟩)) (q_kI ?_)
      obtain rfl := Option.some.inj h
      exact q_iret rfl (q_b_nar _) dX7_takesPart_158 hQ
    rw [if_neg c36] at h
    by_cases c39 : y2 = (111 : Int32)
    · rw [if_pos c39] at h
      refine q_lookup (M := mX7_takesPart) (pc := 59) (x := y2) 168 (by decide) (by rw [c39] <;> rfl) (by decide) dX7_takesPart_59 ?_
      refine q_aload_n 0 rfl rfl dX7_takesPart_168 ?_
      refine q_getR (q_sh77 (w.fx fx7)) (by decide) (by decide) rfl lfX7_17 dX7_takesPart_169 (r := 2) (q_wr77_0 (w.fx fx7)) ?_
      refine q_iload_n 1 rfl rfl dX7_takesPart_172 ?_
      refine q_ldcS (j := 3) (r := 1000006) rfl rfl dX7_takesPart_173 ?_
      obtain ⟨r40, e41, h⟩ := q_bind h
      refine q_callV (ci := 8) (d := 6) (Mc := mX8_isWord) (kc := 0) (nc := 0) [.int y1, .ref 1000006] okX8_isWord (q_sh2 (w.fx fx7)) (by decide) rfl lmX7_69 inX8_isWord seX8_isWord rfl (Nat.le_of_ble_eq_true rfl) (Nat.le_of_ble_eq_true rfl) (Nat.le_refl _) (Nat.le_refl _) dX7_takesPart_175 (q_L.deep (by decide) (kX8_isWord (Q := fun r S' => r = some (.int (q_b r40)) ∧ S' = S5) (w.fx fx7) e41 ⟨rfl, rfl⟩)) (q_kI ?_)
      obtain rfl := Option.some.inj h
      exact q_iret rfl (q_b_nar _) dX7_takesPart_178 hQ
    rw [if_neg c39] at h
    refine q_lookup (M := mX7_takesPart) (pc := 59) (x := y2) (off := 237) 296 (by decide) (by rw [lv_osw c8 (by decide), lv_osw c11 (by decide), lv_osw c16 (by decide), lv_osw c19 (by decide), lv_osw c22 (by decide), lv_osw c23 (by decide), lv_osw c28 (by decide), lv_osw c31 (by decide), lv_osw c36 (by decide), lv_osw c39 (by decide)] <;> rfl) (by decide) dX7_takesPart_59 ?_
    refine q_aload_n 0 rfl rfl dX7_takesPart_296 ?_
    refine q_getR (q_sh77 (w.fx fx7)) (by decide) (by decide) rfl lfX7_17 dX7_takesPart_297 (r := 2) (q_wr77_0 (w.fx fx7)) ?_
    refine q_iload_n 1 rfl rfl dX7_takesPart_300 ?_
    refine q_iload_n 2 rfl rfl dX7_takesPart_301 ?_
    obtain ⟨r42, e43, h⟩ := q_bind h
    refine q_callV (ci := 8) (d := 6) (Mc := mX8_isMark) (kc := 0) (nc := 0) [.int y1, .int y2] okX8_isMark (q_sh2 (w.fx fx7)) (by decide) rfl lmX7_55 inX8_isMark seX8_isMark rfl (Nat.le_of_ble_eq_true rfl) (Nat.le_of_ble_eq_true rfl) (Nat.le_refl _) (Nat.le_refl _) dX7_takesPart_302 (q_L.deep (by decide) (kX8_isMark (Q := fun r S' => r = some (.int (q_b r42)) ∧ S' = S5) (w.fx fx7) e43 ⟨rfl, rfl⟩)) (q_kI ?_)
    obtain rfl := Option.some.inj h
    exact q_iret rfl (q_b_nar _) dX7_takesPart_305 hQ
  replace h := hv
  refine q_icmp_ne 53 (by decide) dX7_takesPart_46 (fun c => ?_) (fun c => ?_)
  · rw [if_neg c] at h
    refine q_iconst (v := (0 : Int32)) (by decide) dX7_takesPart_53 ?_
    obtain rfl := Option.some.inj h
    refine q_sub [0, 1, 2] rfl ?_
    exact K1
  · rw [if_pos c] at h
    refine q_iconst (v := (1 : Int32)) (by decide) dX7_takesPart_49 ?_
    refine q_goto 54 (by decide) dX7_takesPart_50 ?_
    obtain rfl := Option.some.inj h
    refine q_sub [0, 1, 2] rfl ?_
    exact K1
set_option maxRecDepth 20000 in
theorem kX7_takesPart {S : QS} {g : QG} {Q : Option Value → QS → Prop}  {x1 : Int32} {x2 : Int32} {r : Bool × QS} (w : q_Wire S) (h : fX7_takesPart S x1 x2 = some r) (hQ : Q (some (.int (q_b r.1))) r.2) : q_M g mX7_takesPart 7 0 0 [.ref 77, .int x1, .int x2] S Q := by
  unfold fX7_takesPart at h
  show q_L g mX7_takesPart 7 0 0 Q 0 0 0 [(0, .ref 77), (1, .int x1), (2, .int x2)] [] S
  refine q_iload_n 2 rfl rfl dX7_takesPart_0 ?_
  refine q_bipush (v := (80 : Int32)) (by decide) dX7_takesPart_1 ?_
  refine q_icmp_ne 28 (by decide) dX7_takesPart_3 (fun c => ?_) (fun c => ?_)
  · rw [if_neg c] at h
    refine q_sub [0, 1, 2] rfl ?_
    exact kX7_takesPart_28 w h hQ
  · rw [if_pos c] at h
    refine q_aload_n 0 rfl rfl dX7_takesPart_6 ?_
    refine q_getR (q_sh77 w) (by decide) (by decide) rfl lfX7_17 dX7_takesPart_7 (r := 2) (q_wr77_0 w) ?_
    refine q_iload_n 1 rfl rfl dX7_takesPart_10 ?_
    refine q_bipush (v := (41 : Int32)) (by decide) dX7_takesPart_11 ?_
    obtain ⟨r44, e45, h⟩ := q_bind h
    refine q_callV (ci := 8) (d := 6) (Mc := mX8_isMark) (kc := 0) (nc := 0) [.int x1, .int (41 : Int32)] okX8_isMark (q_sh2 w) (by decide) rfl lmX7_55 inX8_isMark seX8_isMark rfl (Nat.le_of_ble_eq_true rfl) (Nat.le_of_ble_eq_true rfl) (Nat.le_refl _) (Nat.le_refl _) dX7_takesPart_13 (q_L.deep (by decide) (kX8_isMark (Q := fun r S' => r = some (.int (q_b r44)) ∧ S' = S) w e45 ⟨rfl, rfl⟩)) (q_kI ?_)
    refine q_if_ne 28 (by decide) dX7_takesPart_16 (fun c => ?_) (fun c => ?_)
    · have c := q_b_n.mp c; rw [q_if1 c] at h
      refine q_sub [0, 1, 2] rfl ?_
      exact kX7_takesPart_28 w h hQ
    · have c := q_b_0.mp c; rw [q_if0 c] at h
      refine q_aload_n 0 rfl rfl dX7_takesPart_19 ?_
      refine q_getR (q_sh77 w) (by decide) (by decide) rfl lfX7_17 dX7_takesPart_20 (r := 2) (q_wr77_0 w) ?_
      refine q_iload_n 1 rfl rfl dX7_takesPart_23 ?_
      obtain ⟨r46, e47, h⟩ := q_bind h
      refine q_callV (ci := 8) (d := 6) (Mc := mX8_isType) (kc := 0) (nc := 0) [.int x1] okX8_isType (q_sh2 w) (by decide) rfl lmX7_58 inX8_isType seX8_isType rfl (Nat.le_of_ble_eq_true rfl) (Nat.le_of_ble_eq_true rfl) (Nat.le_refl _) (Nat.le_refl _) dX7_takesPart_24 (q_L.deep (by decide) (kX8_isType (Q := fun r S' => r = some (.int (q_b r46)) ∧ S' = S) w e47 ⟨rfl, rfl⟩)) (q_kI ?_)
      obtain rfl := Option.some.inj h
      exact q_iret rfl (q_b_nar _) dX7_takesPart_27 hQ
set_option maxRecDepth 20000 in
theorem kX7_expect {S : QS} {g : QG} {Q : Option Value → QS → Prop}  {x1 : Int32} {x2 : Int32} {x3 : Nat} {r : QS} (w : q_Wire S) (h : fX7_expect S x1 x2 x3 = some r) (hQ : Q none r) : q_M g mX7_expect 0 0 0 [.ref 77, .int x1, .int x2, .ref x3] S Q := by
  unfold fX7_expect at h
  show q_L g mX7_expect 0 0 0 Q 0 0 0 [(0, .ref 77), (1, .int x1), (2, .int x2), (3, .ref x3)] [] S
  refine q_aload_n 0 rfl rfl dX7_expect_0 ?_
  refine q_getR (q_sh77 w) (by decide) (by decide) rfl lfX7_17 dX7_expect_1 (r := 2) (q_wr77_0 w) ?_
  refine q_getRN (q_sh2 w) (by decide) (by decide) rfl lfX7_33 dX7_expect_4 (r := 6) (q_wr2_4 w) ?_
  refine q_iload_n 1 rfl rfl dX7_expect_7 ?_
  refine q_iload_n 2 rfl rfl dX7_expect_8 ?_
  refine q_i2b dX7_expect_9 ?_
  obtain ⟨hg1, h⟩ := q_guard h
  refine q_bast (q_sh6 w) (q_inb_in hg1) dX7_expect_10 ?_
  obtain ⟨S2, e3, h⟩ := q_bindS h
  refine q_st e3 ?_
  have fx4 : q_Fx S S2 := e3 ▸ q_Fx.sI (q_Fx.rf S)
  refine q_aload_n 0 rfl rfl dX7_expect_11 ?_
  refine q_aload_n 3 rfl rfl dX7_expect_12 ?_
  refine q_putR (q_sh77 (w.fx fx4)) (by decide) (by decide) rfl rfl lfX7_11 dX7_expect_13 ?_
  obtain ⟨S5, e6, h⟩ := q_bindS h
  refine q_st e6 ?_
  have fx7 : q_Fx S S5 := e6 ▸ q_Fx.sT (fx4)
  refine q_aload_n 0 rfl rfl dX7_expect_16 ?_
  refine q_iconst (v := (0 : Int32)) (by decide) dX7_expect_17 ?_
  refine q_putI (q_sh77 (w.fx fx7)) (by decide) (by decide) rfl rfl ⟨rfl, rfl⟩ lfX7_21 dX7_expect_18 ?_
  obtain ⟨S8, e9, h⟩ := q_bindS h
  refine q_st e9 ?_
  have fx10 : q_Fx S S8 := e9 ▸ q_Fx.sI (fx7)
  obtain rfl := Option.some.inj h
  exact q_vret rfl dX7_expect_21 hQ
set_option maxRecDepth 20000 in
theorem kX7_beginsClass {S : QS} {g : QG} {Q : Option Value → QS → Prop}  {x1 : Int32} {r : Bool × QS} (w : q_Wire S) (h : fX7_beginsClass S x1 = some r) (hQ : Q (some (.int (q_b r.1))) r.2) : q_M g mX7_beginsClass 6 0 0 [.ref 77, .int x1] S Q := by
  unfold fX7_beginsClass at h
  show q_L g mX7_beginsClass 6 0 0 Q 0 0 0 [(0, .ref 77), (1, .int x1)] [] S
  refine q_aload_n 0 rfl rfl dX7_beginsClass_0 ?_
  refine q_iload_n 1 rfl rfl dX7_beginsClass_1 ?_
  refine q_bipush (v := (48 : Int32)) (by decide) dX7_beginsClass_2 ?_
  refine q_ldcS (j := 6) (r := 1000012) rfl rfl dX7_beginsClass_4 ?_
  obtain ⟨r1, e2, h⟩ := q_bind h
  refine q_callV (ci := 7) (d := 5) (Mc := mX7_expect) (kc := 0) (nc := 0) [.int x1, .int (48 : Int32), .ref 1000012] okX7_expect (q_sh77 w) (by decide) rfl lmX7_94 inX7_expect seX7_expect rfl (Nat.le_of_ble_eq_true rfl) (Nat.le_of_ble_eq_true rfl) (Nat.le_refl _) (Nat.le_refl _) dX7_beginsClass_6 (q_L.deep (by decide) (kX7_expect (Q := fun r S' => r = none ∧ S' = r1) w e2 ⟨rfl, rfl⟩)) (q_kV ?_)
  have fx3 : q_Fx S r1 := q_Fx.tr (q_Fx.rf S) (fxX7_expect e2)
  refine q_aload_n 0 rfl rfl dX7_beginsClass_9 ?_
  refine q_getR (q_sh77 (w.fx fx3)) (by decide) (by decide) rfl lfX7_17 dX7_beginsClass_10 (r := 2) (q_wr77_0 (w.fx fx3)) ?_
  refine q_iload_n 1 rfl rfl dX7_beginsClass_13 ?_
  refine q_ldcS (j := 7) (r := 1000014) rfl rfl dX7_beginsClass_14 ?_
  obtain ⟨r4, e5, h⟩ := q_bind h
  refine q_callV (ci := 8) (d := 5) (Mc := mX8_isWord) (kc := 0) (nc := 0) [.int x1, .ref 1000014] okX8_isWord (q_sh2 (w.fx fx3)) (by decide) rfl lmX7_69 inX8_isWord seX8_isWord rfl (Nat.le_of_ble_eq_true rfl) (Nat.le_of_ble_eq_true rfl) (Nat.le_refl _) (Nat.le_refl _) dX7_beginsClass_16 (q_L.deep (by decide) (kX8_isWord (Q := fun r S' => r = some (.int (q_b r4)) ∧ S' = r1) (w.fx fx3) e5 ⟨rfl, rfl⟩)) (q_kI ?_)
  obtain rfl := Option.some.inj h
  exact q_iret rfl (q_b_nar _) dX7_beginsClass_19 hQ
set_option maxRecDepth 20000 in
theorem kX7_beginsMember {S : QS} {g : QG} {Q : Option Value → QS → Prop}  {x1 : Int32} {r : Bool × QS} (w : q_Wire S) (h : fX7_beginsMember S x1 = some r) (hQ : Q (some (.int (q_b r.1))) r.2) : q_M g mX7_beginsMember 6 0 0 [.ref 77, .int x1] S Q := by
  unfold fX7_beginsMember at h
  show q_L g mX7_beginsMember 6 0 0 Q 0 0 0 [(0, .ref 77), (1, .int x1)] [] S
  refine q_aload_n 0 rfl rfl dX7_beginsMember_0 ?_
  refine q_getR (q_sh77 w) (by decide) (by decide) rfl lfX7_17 dX7_beginsMember_1 (r := 2) (q_wr77_0 w) ?_
  refine q_iload_n 1 rfl rfl dX7_beginsMember_4 ?_
  refine q_ldcS (j := 8) (r := 1000016) rfl rfl dX7_beginsMember_5 ?_
  obtain ⟨r1, e2, h⟩ := q_bind h
  refine q_callV (ci := 8) (d := 5) (Mc := mX8_isWord) (kc := 0) (nc := 0) [.int x1, .ref 1000016] okX8_isWord (q_sh2 w) (by decide) rfl lmX7_69 inX8_isWord seX8_isWord rfl (Nat.le_of_ble_eq_true rfl) (Nat.le_of_ble_eq_true rfl) (Nat.le_refl _) (Nat.le_refl _) dX7_beginsMember_7 (q_L.deep (by decide) (kX8_isWord (Q := fun r S' => r = some (.int (q_b r1)) ∧ S' = S) w e2 ⟨rfl, rfl⟩)) (q_kI ?_)
  refine q_if_eq 24 (by decide) dX7_beginsMember_10 (fun c => ?_) (fun c => ?_)
  · have c := q_b_0.mp c; rw [q_if0 c] at h
    refine q_aload_n 0 rfl rfl dX7_beginsMember_24 ?_
    refine q_getR (q_sh77 w) (by decide) (by decide) rfl lfX7_17 dX7_beginsMember_25 (r := 2) (q_wr77_0 w) ?_
    refine q_iload_n 1 rfl rfl dX7_beginsMember_28 ?_
    refine q_ldcS (j := 10) (r := 1000020) rfl rfl dX7_beginsMember_29 ?_
    obtain ⟨r3, e4, h⟩ := q_bind h
    refine q_callV (ci := 8) (d := 5) (Mc := mX8_isWord) (kc := 0) (nc := 0) [.int x1, .ref 1000020] okX8_isWord (q_sh2 w) (by decide) rfl lmX7_69 inX8_isWord seX8_isWord rfl (Nat.le_of_ble_eq_true rfl) (Nat.le_of_ble_eq_true rfl) (Nat.le_refl _) (Nat.le_refl _) dX7_beginsMember_31 (q_L.deep (by decide) (kX8_isWord (Q := fun r S' => r = some (.int (q_b r3)) ∧ S' = S) w e4 ⟨rfl, rfl⟩)) (q_kI ?_)
    refine q_istore_n [(2, .int (q_b r3)), (0, .ref 77), (1, .int x1)] rfl (by decide) rfl dX7_beginsMember_34 ?_
    refine q_aload_n 1 rfl rfl dX7_beginsMember_35 ?_
    refine q_iload_n 2 rfl rfl dX7_beginsMember_36 ?_
    refine q_iload_n 0 rfl rfl dX7_beginsMember_37 ?_
    obtain ⟨v5, hv, h⟩ := q_bind h
    have K1 : q_L g mX7_beginsMember 6 0 0 Q 0 0 48 [(0, .ref 77), (1, .int x1), (2, .int (q_b r3))] [.int v5, .int x1, .ref 77] S := by
      refine q_ldcS (j := 11) (r := 1000022) rfl rfl dX7_beginsMember_48 ?_
      obtain ⟨r6, e7, h⟩ := q_bind h
      refine q_callV (ci := 7) (d := 5) (Mc := mX7_expect) (kc := 0) (nc := 0) [.int x1, .int v5, .ref 1000022] okX7_expect (q_sh77 w) (by decide) rfl lmX7_94 inX7_expect seX7_expect rfl (Nat.le_of_ble_eq_true rfl) (Nat.le_of_ble_eq_true rfl) (Nat.le_refl _) (Nat.le_refl _) dX7_beginsMember_50 (q_L.deep (by decide) (kX7_expect (Q := fun r S' => r = none ∧ S' = r6) w e7 ⟨rfl, rfl⟩)) (q_kV ?_)
      have fx8 : q_Fx S r6 := q_Fx.tr (q_Fx.rf S) (fxX7_expect e7)
      refine q_iload_n 2 rfl rfl dX7_beginsMember_53 ?_
      refine q_if_ne 70 (by decide) dX7_beginsMember_54 (fun c => ?_) (fun c => ?_)
      · have c := q_b_n.mp c; rw [q_if1 c] at h
        refine q_iconst (v := (1 : Int32)) (by decide) dX7_beginsMember_70 ?_
        refine q_goto 75 (by decide) dX7_beginsMember_71 ?_
        obtain rfl := Option.some.inj h
        exact q_iret rfl (by decide) dX7_beginsMember_75 hQ
      · have c := q_b_0.mp c; rw [q_if0 c] at h
        refine q_aload_n 0 rfl rfl dX7_beginsMember_57 ?_
        refine q_getR (q_sh77 (w.fx fx8)) (by decide) (by decide) rfl lfX7_17 dX7_beginsMember_58 (r := 2) (q_wr77_0 (w.fx fx8)) ?_
        refine q_iload_n 1 rfl rfl dX7_beginsMember_61 ?_
        refine q_ldcS (j := 12) (r := 1000024) rfl rfl dX7_beginsMember_62 ?_
        obtain ⟨r9, e10, h⟩ := q_bind h
        refine q_callV (ci := 8) (d := 5) (Mc := mX8_isWord) (kc := 0) (nc := 0) [.int x1, .ref 1000024] okX8_isWord (q_sh2 (w.fx fx8)) (by decide) rfl lmX7_69 inX8_isWord seX8_isWord rfl (Nat.le_of_ble_eq_true rfl) (Nat.le_of_ble_eq_true rfl) (Nat.le_refl _) (Nat.le_refl _) dX7_beginsMember_64 (q_L.deep (by decide) (kX8_isWord (Q := fun r S' => r = some (.int (q_b r9)) ∧ S' = r6) (w.fx fx8) e10 ⟨rfl, rfl⟩)) (q_kI ?_)
        refine q_if_eq 74 (by decide) dX7_beginsMember_67 (fun c => ?_) (fun c => ?_)
        · have c := q_b_0.mp c; rw [q_if0 c] at h
          refine q_iconst (v := (0 : Int32)) (by decide) dX7_beginsMember_74 ?_
          obtain rfl := Option.some.inj h
          exact q_iret rfl (by decide) dX7_beginsMember_75 hQ
        · have c := q_b_n.mp c; rw [q_if1 c] at h
          refine q_iconst (v := (1 : Int32)) (by decide) dX7_beginsMember_70 ?_
          refine q_goto 75 (by decide) dX7_beginsMember_71 ?_
          obtain rfl := Option.some.inj h
          exact q_iret rfl (by decide) dX7_beginsMember_75 hQ
    replace h := hv
    refine q_if_eq 46 (by decide) dX7_beginsMember_38 (fun c => ?_) (fun c => ?_)
    · have c := q_b_0.mp c; rw [q_if0 c] at h
      refine q_bipush (v := (51 : Int32)) (by decide) dX7_beginsMember_46 ?_
      obtain rfl := Option.some.inj h
      refine q_sub [1, 2, 0] rfl ?_
      exact K1
    · have c := q_b_n.mp c; rw [q_if1 c] at h
      refine q_bipush (v := (50 : Int32)) (by decide) dX7_beginsMember_41 ?_
      refine q_goto 48 (by decide) dX7_beginsMember_43 ?_
      obtain rfl := Option.some.inj h
      refine q_sub [1, 2, 0] rfl ?_
      exact K1
  · have c := q_b_n.mp c; rw [q_if1 c] at h
    refine q_aload_n 0 rfl rfl dX7_beginsMember_13 ?_
    refine q_iload_n 1 rfl rfl dX7_beginsMember_14 ?_
    refine q_bipush (v := (49 : Int32)) (by decide) dX7_beginsMember_15 ?_
    refine q_ldcS (j := 9) (r := 1000018) rfl rfl dX7_beginsMember_17 ?_
    obtain ⟨r11, e12, h⟩ := q_bind h
    refine q_callV (ci := 7) (d := 5) (Mc := mX7_expect) (kc := 0) (nc := 0) [.int x1, .int (49 : Int32), .ref 1000018] okX7_expect (q_sh77 w) (by decide) rfl lmX7_94 inX7_expect seX7_expect rfl (Nat.le_of_ble_eq_true rfl) (Nat.le_of_ble_eq_true rfl) (Nat.le_refl _) (Nat.le_refl _) dX7_beginsMember_19 (q_L.deep (by decide) (kX7_expect (Q := fun r S' => r = none ∧ S' = r11) w e12 ⟨rfl, rfl⟩)) (q_kV ?_)
    have fx13 : q_Fx S r11 := q_Fx.tr (q_Fx.rf S) (fxX7_expect e12)
    refine q_iconst (v := (1 : Int32)) (by decide) dX7_beginsMember_22 ?_
    obtain rfl := Option.some.inj h
    exact q_iret rfl (by decide) dX7_beginsMember_23 hQ
set_option maxRecDepth 20000 in
theorem kX7_operandsOf {S : QS} {g : QG} {Q : Option Value → QS → Prop}  {x0 : Int32} {r : Nat} (w : q_Wire S) (h : fX7_operandsOf S x0 = some r) (hQ : Q (some (.ref r)) S) : q_M g mX7_operandsOf 0 0 0 [.int x0] S Q := by
  unfold fX7_operandsOf at h
  show q_L g mX7_operandsOf 0 0 0 Q 0 0 0 [(0, .int x0)] [] S
  refine q_iload_n 0 rfl rfl dX7_operandsOf_0 ?_
  by_cases c1 : x0 = (0 : Int32) ∨ x0 = (2 : Int32) ∨ x0 = (3 : Int32)
  · rw [if_pos c1] at h
    have K : ∀ (hK : True), q_L g mX7_operandsOf 0 0 0 Q 0 0 180 [(0, .int x0)] [] S := by
      intro _
      refine q_ldcS (j := 17) (r := 1000034) rfl rfl dX7_operandsOf_180 ?_
      obtain rfl := Option.some.inj h
      exact q_aret rfl (Or.inl ⟨_, rfl⟩) dX7_operandsOf_182 hQ
    rcases c1 with c1 | c1 | c1
    · exact q_tabIn (M := mX7_operandsOf) (pc := 1) (x := x0) 180 (by rw [c1]; decide) (by rw [c1]; decide) (by rw [c1]; rfl) (by decide) dX7_operandsOf_1 (K trivial)
    · exact q_tabIn (M := mX7_operandsOf) (pc := 1) (x := x0) 180 (by rw [c1]; decide) (by rw [c1]; decide) (by rw [c1]; rfl) (by decide) dX7_operandsOf_1 (K trivial)
    · exact q_tabIn (M := mX7_operandsOf) (pc := 1) (x := x0) 180 (by rw [c1]; decide) (by rw [c1]; decide) (by rw [c1]; rfl) (by decide) dX7_operandsOf_1 (K trivial)
  rw [if_neg c1] at h
  by_cases c2 : x0 = (4 : Int32)
  · rw [if_pos c2] at h
    refine q_tabIn (M := mX7_operandsOf) (pc := 1) (x := x0) 183 (by rw [c2]; decide) (by rw [c2]; decide) (by rw [c2]; rfl) (by decide) dX7_operandsOf_1 ?_
    refine q_ldcS (j := 18) (r := 1000036) rfl rfl dX7_operandsOf_183 ?_
    obtain rfl := Option.some.inj h
    exact q_aret rfl (Or.inl ⟨_, rfl⟩) dX7_operandsOf_185 hQ
  rw [if_neg c2] at h
  by_cases c3 : x0 = (30 : Int32)
  · rw [if_pos c3] at h
    refine q_tabIn (M := mX7_operandsOf) (pc := 1) (x := x0) 186 (by rw [c3]; decide) (by rw [c3]; decide) (by rw [c3]; rfl) (by decide) dX7_operandsOf_1 ?_
    refine q_ldcS (j := 19) (r := 1000038) rfl rfl dX7_operandsOf_186 ?_
    obtain rfl := Option.some.inj h
    exact q_aret rfl (Or.inl ⟨_, rfl⟩) dX7_operandsOf_188 hQ
  rw [if_neg c3] at h
  by_cases c4 : x0 = (31 : Int32)
  · rw [if_pos c4] at h
    refine q_tabIn (M := mX7_operandsOf) (pc := 1) (x := x0) 189 (by rw [c4]; decide) (by rw [c4]; decide) (by rw [c4]; rfl) (by decide) dX7_operandsOf_1 ?_
    refine q_ldcS (j := 20) (r := 1000040) rfl rfl dX7_operandsOf_189 ?_
    obtain rfl := Option.some.inj h
    exact q_aret rfl (Or.inl ⟨_, rfl⟩) dX7_operandsOf_191 hQ
  rw [if_neg c4] at h
  by_cases c5 : x0 = (35 : Int32) ∨ x0 = (36 : Int32) ∨ x0 = (39 : Int32) ∨ x0 = (40 : Int32)
  · rw [if_pos c5] at h
    have K : ∀ (hK : True), q_L g mX7_operandsOf 0 0 0 Q 0 0 192 [(0, .int x0)] [] S := by
      intro _
      refine q_ldcS (j := 21) (r := 1000042) rfl rfl dX7_operandsOf_192 ?_
      obtain rfl := Option.some.inj h
      exact q_aret rfl (Or.inl ⟨_, rfl⟩) dX7_operandsOf_194 hQ
    rcases c5 with c5 | c5 | c5 | c5
    · exact q_tabIn (M := mX7_operandsOf) (pc := 1) (x := x0) 192 (by rw [c5]; decide) (by rw [c5]; decide) (by rw [c5]; rfl) (by decide) dX7_operandsOf_1 (K trivial)
    · exact q_tabIn (M := mX7_operandsOf) (pc := 1) (x := x0) 192 (by rw [c5]; decide) (by rw [c5]; decide) (by rw [c5]; rfl) (by decide) dX7_operandsOf_1 (K trivial)
    · exact q_tabIn (M := mX7_operandsOf) (pc := 1) (x := x0) 192 (by rw [c5]; decide) (by rw [c5]; decide) (by rw [c5]; rfl) (by decide) dX7_operandsOf_1 (K trivial)
    · exact q_tabIn (M := mX7_operandsOf) (pc := 1) (x := x0) 192 (by rw [c5]; decide) (by rw [c5]; decide) (by rw [c5]; rfl) (by decide) dX7_operandsOf_1 (K trivial)
  rw [if_neg c5] at h
  by_cases c6 : x0 = (37 : Int32) ∨ x0 = (38 : Int32)
  · rw [if_pos c6] at h
    have K : ∀ (hK : True), q_L g mX7_operandsOf 0 0 0 Q 0 0 195 [(0, .int x0)] [] S := by
      intro _
      refine q_ldcS (j := 22) (r := 1000044) rfl rfl dX7_operandsOf_195 ?_
      obtain rfl := Option.some.inj h
      exact q_aret rfl (Or.inl ⟨_, rfl⟩) dX7_operandsOf_197 hQ
    rcases c6 with c6 | c6
    · exact q_tabIn (M := mX7_operandsOf) (pc := 1) (x := x0) 195 (by rw [c6]; decide) (by rw [c6]; decide) (by rw [c6]; rfl) (by decide) dX7_operandsOf_1 (K trivial)
    · exact q_tabIn (M := mX7_operandsOf) (pc := 1) (x := x0) 195 (by rw [c6]; decide) (by rw [c6]; decide) (by rw [c6]; rfl) (by decide) dX7_operandsOf_1 (K trivial)
  rw [if_neg c6] at h
  have n7 : ¬ x0 = (0 : Int32) := (fun q => c1 (Or.inl q))
  have n8 : ¬ x0 = (2 : Int32) := (fun q => c1 (Or.inr (Or.inl q)))
  have n9 : ¬ x0 = (3 : Int32) := (fun q => c1 (Or.inr (Or.inr (q))))
  have n10 : ¬ x0 = (35 : Int32) := (fun q => c5 (Or.inl q))
  have n11 : ¬ x0 = (36 : Int32) := (fun q => c5 (Or.inr (Or.inl q)))
  have n12 : ¬ x0 = (39 : Int32) := (fun q => c5 (Or.inr (Or.inr (Or.inl q))))
  have n13 : ¬ x0 = (40 : Int32) := (fun q => c5 (Or.inr (Or.inr (Or.inr (q)))))
  have n14 : ¬ x0 = (37 : Int32) := (fun q => c6 (Or.inl q))
  have n15 : ¬ x0 = (38 : Int32) := (fun q => c6 (Or.inr (q)))
  have K : ∀ (hK : True), q_L g mX7_operandsOf 0 0 0 Q 0 0 198 [(0, .int x0)] [] S := by
    intro _
    refine q_iload_n 0 rfl rfl dX7_operandsOf_198 ?_
    refine q_bipush (v := (19 : Int32)) (by decide) dX7_operandsOf_199 ?_
    refine q_icmp_lt 215 (by decide) dX7_operandsOf_201 (fun c => ?_) (fun c => ?_)
    · rw [if_pos c] at h
      refine q_ldcS (j := 0) (r := 1000000) rfl rfl dX7_operandsOf_215 ?_
      obtain rfl := Option.some.inj h
      exact q_aret rfl (Or.inl ⟨_, rfl⟩) dX7_operandsOf_217 hQ
    · rw [if_neg c] at h
      refine q_iload_n 0 rfl rfl dX7_operandsOf_204 ?_
      refine q_bipush (v := (29 : Int32)) (by decide) dX7_operandsOf_205 ?_
      refine q_icmp_gt 215 (by decide) dX7_operandsOf_207 (fun c => ?_) (fun c => ?_)
      · rw [if_pos c] at h
        refine q_ldcS (j := 0) (r := 1000000) rfl rfl dX7_operandsOf_215 ?_
        obtain rfl := Option.some.inj h
        exact q_aret rfl (Or.inl ⟨_, rfl⟩) dX7_operandsOf_217 hQ
      · rw [if_neg c] at h
        refine q_ldcS (j := 23) (r := 1000046) rfl rfl dX7_operandsOf_210 ?_
        refine q_goto 217 (by decide) dX7_operandsOf_212 ?_
        obtain rfl := Option.some.inj h
        exact q_aret rfl (Or.inl ⟨_, rfl⟩) dX7_operandsOf_217 hQ
  by_cases n16 : x0 = (1 : Int32)
  · exact q_tabIn (M := mX7_operandsOf) (pc := 1) (x := x0) 198 (by rw [n16]; decide) (by rw [n16]; decide) (by rw [n16]; rfl) (by decide) dX7_operandsOf_1 (K trivial)
  by_cases n17 : x0 = (5 : Int32)
  · exact q_tabIn (M := mX7_operandsOf) (pc := 1) (x := x0) 198 (by rw [n17]; decide) (by rw [n17]; decide) (by rw [n17]; rfl) (by decide) dX7_operandsOf_1 (K trivial)
  by_cases n18 : x0 = (6 : Int32)
  · exact q_tabIn (M := mX7_operandsOf) (pc := 1) (x := x0) 198 (by rw [n18]; decide) (by rw [n18]; decide) (by rw [n18]; rfl) (by decide) dX7_operandsOf_1 (K trivial)
  by_cases n19 : x0 = (7 : Int32)
  · exact q_tabIn (M := mX7_operandsOf) (pc := 1) (x := x0) 198 (by rw [n19]; decide) (by rw [n19]; decide) (by rw [n19]; rfl) (by decide) dX7_operandsOf_1 (K trivial)
  by_cases n20 : x0 = (8 : Int32)
  · exact q_tabIn (M := mX7_operandsOf) (pc := 1) (x := x0) 198 (by rw [n20]; decide) (by rw [n20]; decide) (by rw [n20]; rfl) (by decide) dX7_operandsOf_1 (K trivial)
  by_cases n21 : x0 = (9 : Int32)
  · exact q_tabIn (M := mX7_operandsOf) (pc := 1) (x := x0) 198 (by rw [n21]; decide) (by rw [n21]; decide) (by rw [n21]; rfl) (by decide) dX7_operandsOf_1 (K trivial)
  by_cases n22 : x0 = (10 : Int32)
  · exact q_tabIn (M := mX7_operandsOf) (pc := 1) (x := x0) 198 (by rw [n22]; decide) (by rw [n22]; decide) (by rw [n22]; rfl) (by decide) dX7_operandsOf_1 (K trivial)
  by_cases n23 : x0 = (11 : Int32)
  · exact q_tabIn (M := mX7_operandsOf) (pc := 1) (x := x0) 198 (by rw [n23]; decide) (by rw [n23]; decide) (by rw [n23]; rfl) (by decide) dX7_operandsOf_1 (K trivial)
  by_cases n24 : x0 = (12 : Int32)
  · exact q_tabIn (M := mX7_operandsOf) (pc := 1) (x := x0) 198 (by rw [n24]; decide) (by rw [n24]; decide) (by rw [n24]; rfl) (by decide) dX7_operandsOf_1 (K trivial)
  by_cases n25 : x0 = (13 : Int32)
  · exact q_tabIn (M := mX7_operandsOf) (pc := 1) (x := x0) 198 (by rw [n25]; decide) (by rw [n25]; decide) (by rw [n25]; rfl) (by decide) dX7_operandsOf_1 (K trivial)
  by_cases n26 : x0 = (14 : Int32)
  · exact q_tabIn (M := mX7_operandsOf) (pc := 1) (x := x0) 198 (by rw [n26]; decide) (by rw [n26]; decide) (by rw [n26]; rfl) (by decide) dX7_operandsOf_1 (K trivial)
  by_cases n27 : x0 = (15 : Int32)
  · exact q_tabIn (M := mX7_operandsOf) (pc := 1) (x := x0) 198 (by rw [n27]; decide) (by rw [n27]; decide) (by rw [n27]; rfl) (by decide) dX7_operandsOf_1 (K trivial)
  by_cases n28 : x0 = (16 : Int32)
  · exact q_tabIn (M := mX7_operandsOf) (pc := 1) (x := x0) 198 (by rw [n28]; decide) (by rw [n28]; decide) (by rw [n28]; rfl) (by decide) dX7_operandsOf_1 (K trivial)
  by_cases n29 : x0 = (17 : Int32)
  · exact q_tabIn (M := mX7_operandsOf) (pc := 1) (x := x0) 198 (by rw [n29]; decide) (by rw [n29]; decide) (by rw [n29]; rfl) (by decide) dX7_operandsOf_1 (K trivial)
  by_cases n30 : x0 = (18 : Int32)
  · exact q_tabIn (M := mX7_operandsOf) (pc := 1) (x := x0) 198 (by rw [n30]; decide) (by rw [n30]; decide) (by rw [n30]; rfl) (by decide) dX7_operandsOf_1 (K trivial)
  by_cases n31 : x0 = (19 : Int32)
  · exact q_tabIn (M := mX7_operandsOf) (pc := 1) (x := x0) 198 (by rw [n31]; decide) (by rw [n31]; decide) (by rw [n31]; rfl) (by decide) dX7_operandsOf_1 (K trivial)
  by_cases n32 : x0 = (20 : Int32)
  · exact q_tabIn (M := mX7_operandsOf) (pc := 1) (x := x0) 198 (by rw [n32]; decide) (by rw [n32]; decide) (by rw [n32]; rfl) (by decide) dX7_operandsOf_1 (K trivial)
  by_cases n33 : x0 = (21 : Int32)
  · exact q_tabIn (M := mX7_operandsOf) (pc := 1) (x := x0) 198 (by rw [n33]; decide) (by rw [n33]; decide) (by rw [n33]; rfl) (by decide) dX7_operandsOf_1 (K trivial)
  by_cases n34 : x0 = (22 : Int32)
  · exact q_tabIn (M := mX7_operandsOf) (pc := 1) (x := x0) 198 (by rw [n34]; decide) (by rw [n34]; decide) (by rw [n34]; rfl) (by decide) dX7_operandsOf_1 (K trivial)
  by_cases n35 : x0 = (23 : Int32)
  · exact q_tabIn (M := mX7_operandsOf) (pc := 1) (x := x0) 198 (by rw [n35]; decide) (by rw [n35]; decide) (by rw [n35]; rfl) (by decide) dX7_operandsOf_1 (K trivial)
  by_cases n36 : x0 = (24 : Int32)
  · exact q_tabIn (M := mX7_operandsOf) (pc := 1) (x := x0) 198 (by rw [n36]; decide) (by rw [n36]; decide) (by rw [n36]; rfl) (by decide) dX7_operandsOf_1 (K trivial)
  by_cases n37 : x0 = (25 : Int32)
  · exact q_tabIn (M := mX7_operandsOf) (pc := 1) (x := x0) 198 (by rw [n37]; decide) (by rw [n37]; decide) (by rw [n37]; rfl) (by decide) dX7_operandsOf_1 (K trivial)
  by_cases n38 : x0 = (26 : Int32)
  · exact q_tabIn (M := mX7_operandsOf) (pc := 1) (x := x0) 198 (by rw [n38]; decide) (by rw [n38]; decide) (by rw [n38]; rfl) (by decide) dX7_operandsOf_1 (K trivial)
  by_cases n39 : x0 = (27 : Int32)
  · exact q_tabIn (M := mX7_operandsOf) (pc := 1) (x := x0) 198 (by rw [n39]; decide) (by rw [n39]; decide) (by rw [n39]; rfl) (by decide) dX7_operandsOf_1 (K trivial)
  by_cases n40 : x0 = (28 : Int32)
  · exact q_tabIn (M := mX7_operandsOf) (pc := 1) (x := x0) 198 (by rw [n40]; decide) (by rw [n40]; decide) (by rw [n40]; rfl) (by decide) dX7_operandsOf_1 (K trivial)
  by_cases n41 : x0 = (29 : Int32)
  · exact q_tabIn (M := mX7_operandsOf) (pc := 1) (x := x0) 198 (by rw [n41]; decide) (by rw [n41]; decide) (by rw [n41]; rfl) (by decide) dX7_operandsOf_1 (K trivial)
  by_cases n42 : x0 = (32 : Int32)
  · exact q_tabIn (M := mX7_operandsOf) (pc := 1) (x := x0) 198 (by rw [n42]; decide) (by rw [n42]; decide) (by rw [n42]; rfl) (by decide) dX7_operandsOf_1 (K trivial)
  by_cases n43 : x0 = (33 : Int32)
  · exact q_tabIn (M := mX7_operandsOf) (pc := 1) (x := x0) 198 (by rw [n43]; decide) (by rw [n43]; decide) (by rw [n43]; rfl) (by decide) dX7_operandsOf_1 (K trivial)
  by_cases n44 : x0 = (34 : Int32)
  · exact q_tabIn (M := mX7_operandsOf) (pc := 1) (x := x0) 198 (by rw [n44]; decide) (by rw [n44]; decide) (by rw [n44]; rfl) (by decide) dX7_operandsOf_1 (K trivial)
  exact q_tabOut (M := mX7_operandsOf) (pc := 1) (x := x0) 198 (by have := lv_neT (a := 0) n7 (by decide); have := lv_neT (a := 2) n8 (by decide); have := lv_neT (a := 3) n9 (by decide); have := lv_neT (a := 4) c2 (by decide); have := lv_neT (a := 30) c3 (by decide); have := lv_neT (a := 31) c4 (by decide); have := lv_neT (a := 35) n10 (by decide); have := lv_neT (a := 36) n11 (by decide); have := lv_neT (a := 39) n12 (by decide); have := lv_neT (a := 40) n13 (by decide); have := lv_neT (a := 37) n14 (by decide); have := lv_neT (a := 38) n15 (by decide); have := lv_neT (a := 1) n16 (by decide); have := lv_neT (a := 5) n17 (by decide); have := lv_neT (a := 6) n18 (by decide); have := lv_neT (a := 7) n19 (by decide); have := lv_neT (a := 8) n20 (by decide); have := lv_neT (a := 9) n21 (by decide); have := lv_neT (a := 10) n22 (by decide); have := lv_neT (a := 11) n23 (by decide); have := lv_neT (a := 12) n24 (by decide); have := lv_neT (a := 13) n25 (by decide); have := lv_neT (a := 14) n26 (by decide); have := lv_neT (a := 15) n27 (by decide); have := lv_neT (a := 16) n28 (by decide); have := lv_neT (a := 17) n29 (by decide); have := lv_neT (a := 18) n30 (by decide); have := lv_neT (a := 19) n31 (by decide); have := lv_neT (a := 20) n32 (by decide); have := lv_neT (a := 21) n33 (by decide); have := lv_neT (a := 22) n34 (by decide); have := lv_neT (a := 23) n35 (by decide); have := lv_neT (a := 24) n36 (by decide); have := lv_neT (a := 25) n37 (by decide); have := lv_neT (a := 26) n38 (by decide); have := lv_neT (a := 27) n39 (by decide); have := lv_neT (a := 28) n40 (by decide); have := lv_neT (a := 29) n41 (by decide); have := lv_neT (a := 32) n42 (by decide); have := lv_neT (a := 33) n43 (by decide); have := lv_neT (a := 34) n44 (by decide); omega) (by decide) dX7_operandsOf_1 (K trivial)
set_option maxRecDepth 20000 in
theorem kX7_beginsLine {S : QS} {g : QG} {Q : Option Value → QS → Prop}  {x1 : Int32} {r : Bool × QS} (w : q_Wire S) (h : fX7_beginsLine S x1 = some r) (hQ : Q (some (.int (q_b r.1))) r.2) : q_M g mX7_beginsLine 6 0 0 [.ref 77, .int x1] S Q := by
  unfold fX7_beginsLine at h
  show q_L g mX7_beginsLine 6 0 0 Q 0 0 0 [(0, .ref 77), (1, .int x1)] [] S
  refine q_aload_n 0 rfl rfl dX7_beginsLine_0 ?_
  refine q_getR (q_sh77 w) (by decide) (by decide) rfl lfX7_17 dX7_beginsLine_1 (r := 2) (q_wr77_0 w) ?_
  refine q_iload_n 1 rfl rfl dX7_beginsLine_4 ?_
  obtain ⟨r1, e2, h⟩ := q_bind h
  refine q_callV (ci := 8) (d := 5) (Mc := mX8_isName) (kc := 0) (nc := 0) [.int x1] okX8_isName (q_sh2 w) (by decide) rfl lmX7_61 inX8_isName seX8_isName rfl (Nat.le_of_ble_eq_true rfl) (Nat.le_of_ble_eq_true rfl) (Nat.le_refl _) (Nat.le_refl _) dX7_beginsLine_5 (q_L.deep (by decide) (kX8_isName (Q := fun r S' => r = some (.int (q_b r1)) ∧ S' = S) w e2 ⟨rfl, rfl⟩)) (q_kI ?_)
  refine q_istore_n [(2, .int (q_b r1)), (0, .ref 77), (1, .int x1)] rfl (by decide) rfl dX7_beginsLine_8 ?_
  refine q_iload_n 0 rfl rfl dX7_beginsLine_9 ?_
  obtain ⟨v9, hv, h⟩ := q_bind h
  have K1 : q_L g mX7_beginsLine 6 0 0 Q 0 0 42 [(0, .ref 77), (1, .int x1), (2, .int (q_b r1))] [.int v9] S := by
    refine q_istore_n [(3, .int v9), (0, .ref 77), (1, .int x1), (2, .int (q_b r1))] rfl (by decide) rfl dX7_beginsLine_42 ?_
    refine q_aload_n 1 rfl rfl dX7_beginsLine_43 ?_
    refine q_getR (q_sh77 w) (by decide) (by decide) rfl lfX7_17 dX7_beginsLine_44 (r := 2) (q_wr77_0 w) ?_
    refine q_iload_n 2 rfl rfl dX7_beginsLine_47 ?_
    refine q_ldcS (j := 14) (r := 1000028) rfl rfl dX7_beginsLine_48 ?_
    obtain ⟨r10, e11, h⟩ := q_bind h
    refine q_callV (ci := 8) (d := 5) (Mc := mX8_isWord) (kc := 0) (nc := 0) [.int x1, .ref 1000028] okX8_isWord (q_sh2 w) (by decide) rfl lmX7_69 inX8_isWord seX8_isWord rfl (Nat.le_of_ble_eq_true rfl) (Nat.le_of_ble_eq_true rfl) (Nat.le_refl _) (Nat.le_refl _) dX7_beginsLine_50 (q_L.deep (by decide) (kX8_isWord (Q := fun r S' => r = some (.int (q_b r10)) ∧ S' = S) w e11 ⟨rfl, rfl⟩)) (q_kI ?_)
    refine q_istore [(4, .int (q_b r10)), (3, .int v9), (0, .ref 77), (1, .int x1), (2, .int (q_b r1))] (by decide) rfl dX7_beginsLine_53 ?_
    refine q_aload_n 2 rfl rfl dX7_beginsLine_55 ?_
    refine q_getR (q_sh77 w) (by decide) (by decide) rfl lfX7_17 dX7_beginsLine_56 (r := 2) (q_wr77_0 w) ?_
    refine q_iload_n 3 rfl rfl dX7_beginsLine_59 ?_
    refine q_iconst (v := (1 : Int32)) (by decide) dX7_beginsLine_60 ?_
    refine q_iadd dX7_beginsLine_61 ?_
    refine q_bipush (v := (58 : Int32)) (by decide) dX7_beginsLine_62 ?_
    obtain ⟨r12, e13, h⟩ := q_bind h
    refine q_callV (ci := 8) (d := 5) (Mc := mX8_isMark) (kc := 0) (nc := 0) [.int (x1 + (1 : Int32)), .int (58 : Int32)] okX8_isMark (q_sh2 w) (by decide) rfl lmX7_55 inX8_isMark seX8_isMark rfl (Nat.le_of_ble_eq_true rfl) (Nat.le_of_ble_eq_true rfl) (Nat.le_refl _) (Nat.le_refl _) dX7_beginsLine_64 (q_L.deep (by decide) (kX8_isMark (Q := fun r S' => r = some (.int (q_b r12)) ∧ S' = S) w e13 ⟨rfl, rfl⟩)) (q_kI ?_)
    refine q_if_ne 80 (by decide) dX7_beginsLine_67 (fun c => ?_) (fun c => ?_)
    · have c := q_b_n.mp c; rw [q_if1 c] at h
      refine q_aload_n 2 rfl rfl dX7_beginsLine_80 ?_
      refine q_iload_n 3 rfl rfl dX7_beginsLine_81 ?_
      refine q_bipush (v := (47 : Int32)) (by decide) dX7_beginsLine_82 ?_
      refine q_ldcS (j := 15) (r := 1000030) rfl rfl dX7_beginsLine_84 ?_
      obtain ⟨r14, e15, h⟩ := q_bind h
      refine q_callV (ci := 7) (d := 5) (Mc := mX7_expect) (kc := 0) (nc := 0) [.int x1, .int (47 : Int32), .ref 1000030] okX7_expect (q_sh77 w) (by decide) rfl lmX7_94 inX7_expect seX7_expect rfl (Nat.le_of_ble_eq_true rfl) (Nat.le_of_ble_eq_true rfl) (Nat.le_refl _) (Nat.le_refl _) dX7_beginsLine_86 (q_L.deep (by decide) (kX7_expect (Q := fun r S' => r = none ∧ S' = r14) w e15 ⟨rfl, rfl⟩)) (q_kV ?_)
      have fx16 : q_Fx S r14 := q_Fx.tr (q_Fx.rf S) (fxX7_expect e15)
      refine q_goto 119 (by decide) dX7_beginsLine_89 ?_
      refine q_iload_n 4 rfl rfl dX7_beginsLine_119 ?_
      obtain rfl := Option.some.inj h
      exact q_iret rfl (q_b_nar _) dX7_beginsLine_120 hQ
    · have c := q_b_0.mp c; rw [q_if0 c] at h
      refine q_iload_n 1 rfl rfl dX7_beginsLine_70 ?_
      refine q_iconst (v := (-1 : Int32)) (by decide) dX7_beginsLine_71 ?_
      refine q_icmp_ne 92 (by decide) dX7_beginsLine_72 (fun c => ?_) (fun c => ?_)
      · rw [if_neg c] at h
        refine q_iload 0 rfl dX7_beginsLine_92 ?_
        refine q_if_eq 109 (by decide) dX7_beginsLine_94 (fun c => ?_) (fun c => ?_)
        · have c := q_b_0.mp c; rw [q_if0 c] at h
          refine q_aload_n 2 rfl rfl dX7_beginsLine_109 ?_
          refine q_iload_n 3 rfl rfl dX7_beginsLine_110 ?_
          refine q_iload_n 1 rfl rfl dX7_beginsLine_111 ?_
          refine q_iload_n 1 rfl rfl dX7_beginsLine_112 ?_
          obtain ⟨r17, e18, h⟩ := q_bind h
          refine q_callS (d := 5) (Mc := mX7_operandsOf) (kc := 0) (nc := 0) [.int v9] okX7_operandsOf lmX7_129 inX7_operandsOf rfl (Nat.le_of_ble_eq_true rfl) (Nat.le_of_ble_eq_true rfl) (Nat.le_refl _) (Nat.le_refl _) dX7_beginsLine_113 (q_L.deep (by decide) (kX7_operandsOf (Q := fun r S' => r = some (.ref r17) ∧ S' = S) w e18 ⟨rfl, rfl⟩)) (q_kR ?_)
          obtain ⟨r19, e20, h⟩ := q_bind h
          refine q_callV (ci := 7) (d := 5) (Mc := mX7_expect) (kc := 0) (nc := 0) [.int x1, .int v9, .ref r17] okX7_expect (q_sh77 w) (by decide) rfl lmX7_94 inX7_expect seX7_expect rfl (Nat.le_of_ble_eq_true rfl) (Nat.le_of_ble_eq_true rfl) (Nat.le_refl _) (Nat.le_refl _) dX7_beginsLine_116 (q_L.deep (by decide) (kX7_expect (Q := fun r S' => r = none ∧ S' = r19) w e20 ⟨rfl, rfl⟩)) (q_kV ?_)
          have fx21 : q_Fx S r19 := q_Fx.tr (q_Fx.rf S) (fxX7_expect e20)
          refine q_iload_n 4 rfl rfl dX7_beginsLine_119 ?_
          obtain rfl := Option.some.inj h
          exact q_iret rfl (q_b_nar _) dX7_beginsLine_120 hQ
        · have c := q_b_n.mp c; rw [q_if1 c] at h
          refine q_aload_n 2 rfl rfl dX7_beginsLine_97 ?_
          refine q_iload_n 3 rfl rfl dX7_beginsLine_98 ?_
          refine q_bipush (v := (46 : Int32)) (by decide) dX7_beginsLine_99 ?_
          refine q_ldcS (j := 16) (r := 1000032) rfl rfl dX7_beginsLine_101 ?_
          obtain ⟨r22, e23, h⟩ := q_bind h
          refine q_callV (ci := 7) (d := 5) (Mc := mX7_expect) (kc := 0) (nc := 0) [.int x1, .int (46 : Int32), .ref 1000032] okX7_expect (q_sh77 w) (by decide) rfl lmX7_94 inX7_expect seX7_expect rfl (Nat.le_of_ble_eq_true rfl) (Nat.le_of_ble_eq_true rfl) (Nat.le_refl _) (Nat.le_refl _) dX7_beginsLine_103 (q_L.deep (by decide) (kX7_expect (Q := fun r S' => r = none ∧ S' = r22) w e23 ⟨rfl, rfl⟩)) (q_kV ?_)
          have fx24 : q_Fx S r22 := q_Fx.tr (q_Fx.rf S) (fxX7_expect e23)
          refine q_goto 119 (by decide) dX7_beginsLine_106 ?_
          refine q_iload_n 4 rfl rfl dX7_beginsLine_119 ?_
          obtain rfl := Option.some.inj h
          exact q_iret rfl (q_b_nar _) dX7_beginsLine_120 hQ
      · rw [if_pos c] at h
        refine q_iload 0 rfl dX7_beginsLine_75 ?_
        refine q_if_ne 92 (by decide) dX7_beginsLine_77 (fun c => ?_) (fun c => ?_)
        · have c := q_b_n.mp c; rw [q_if1 c] at h
          refine q_iload 0 rfl dX7_beginsLine_92 ?_
          refine q_if_eq 109 (by decide) dX7_beginsLine_94 (fun c => ?_) (fun c => ?_)
          · have c := q_b_0.mp c; rw [q_if0 c] at h
            refine q_aload_n 2 rfl rfl dX7_beginsLine_109 ?_
            refine q_iload_n 3 rfl rfl dX7_beginsLine_110 ?_
            refine q_iload_n 1 rfl rfl dX7_beginsLine_111 ?_
            refine q_iload_n 1 rfl rfl dX7_beginsLine_112 ?_
            obtain ⟨r25, e26, h⟩ := q_bind h
            refine q_callS (d := 5) (Mc := mX7_operandsOf) (kc := 0) (nc := 0) [.int v9] okX7_operandsOf lmX7_129 inX7_operandsOf rfl (Nat.le_of_ble_eq_true rfl) (Nat.le_of_ble_eq_true rfl) (Nat.le_refl _) (Nat.le_refl _) dX7_beginsLine_113 (q_L.deep (by decide) (kX7_operandsOf (Q := fun r S' => r = some (.ref r25) ∧ S' = S) w e26 ⟨rfl, rfl⟩)) (q_kR ?_)
            obtain ⟨r27, e28, h⟩ := q_bind h
            refine q_callV (ci := 7) (d := 5) (Mc := mX7_expect) (kc := 0) (nc := 0) [.int x1, .int v9, .ref r25] okX7_expect (q_sh77 w) (by decide) rfl lmX7_94 inX7_expect seX7_expect rfl (Nat.le_of_ble_eq_true rfl) (Nat.le_of_ble_eq_true rfl) (Nat.le_refl _) (Nat.le_refl _) dX7_beginsLine_116 (q_L.deep (by decide) (kX7_expect (Q := fun r S' => r = none ∧ S' = r27) w e28 ⟨rfl, rfl⟩)) (q_kV ?_)
            have fx29 : q_Fx S r27 := q_Fx.tr (q_Fx.rf S) (fxX7_expect e28)
            refine q_iload_n 4 rfl rfl dX7_beginsLine_119 ?_
            obtain rfl := Option.some.inj h
            exact q_iret rfl (q_b_nar _) dX7_beginsLine_120 hQ
          · have c := q_b_n.mp c; rw [q_if1 c] at h
            refine q_aload_n 2 rfl rfl dX7_beginsLine_97 ?_
            refine q_iload_n 3 rfl rfl dX7_beginsLine_98 ?_
            refine q_bipush (v := (46 : Int32)) (by decide) dX7_beginsLine_99 ?_
            refine q_ldcS (j := 16) (r := 1000032) rfl rfl dX7_beginsLine_101 ?_
            obtain ⟨r30, e31, h⟩ := q_bind h
            refine q_callV (ci := 7) (d := 5) (Mc := mX7_expect) (kc := 0) (nc := 0) [.int x1, .int (46 : Int32), .ref 1000032] okX7_expect (q_sh77 w) (by decide) rfl lmX7_94 inX7_expect seX7_expect rfl (Nat.le_of_ble_eq_true rfl) (Nat.le_of_ble_eq_true rfl) (Nat.le_refl _) (Nat.le_refl _) dX7_beginsLine_103 (q_L.deep (by decide) (kX7_expect (Q := fun r S' => r = none ∧ S' = r30) w e31 ⟨rfl, rfl⟩)) (q_kV ?_)
            have fx32 : q_Fx S r30 := q_Fx.tr (q_Fx.rf S) (fxX7_expect e31)
            refine q_goto 119 (by decide) dX7_beginsLine_106 ?_
            refine q_iload_n 4 rfl rfl dX7_beginsLine_119 ?_
            obtain rfl := Option.some.inj h
            exact q_iret rfl (q_b_nar _) dX7_beginsLine_120 hQ
        · have c := q_b_0.mp c; rw [q_if0 c] at h
          refine q_aload_n 2 rfl rfl dX7_beginsLine_80 ?_
          refine q_iload_n 3 rfl rfl dX7_beginsLine_81 ?_
          refine q_bipush (v := (47 : Int32)) (by decide) dX7_beginsLine_82 ?_
          refine q_ldcS (j := 15) (r := 1000030) rfl rfl dX7_beginsLine_84 ?_
          obtain ⟨r33, e34, h⟩ := q_bind h
          refine q_callV (ci := 7) (d := 5) (Mc := mX7_expect) (kc := 0) (nc := 0) [.int x1, .int (47 : Int32), .ref 1000030] okX7_expect (q_sh77 w) (by decide) rfl lmX7_94 inX7_expect seX7_expect rfl (Nat.le_of_ble_eq_true rfl) (Nat.le_of_ble_eq_true rfl) (Nat.le_refl _) (Nat.le_refl _) dX7_beginsLine_86 (q_L.deep (by decide) (kX7_expect (Q := fun r S' => r = none ∧ S' = r33) w e34 ⟨rfl, rfl⟩)) (q_kV ?_)
          have fx35 : q_Fx S r33 := q_Fx.tr (q_Fx.rf S) (fxX7_expect e34)
          refine q_goto 119 (by decide) dX7_beginsLine_89 ?_
          refine q_iload_n 4 rfl rfl dX7_beginsLine_119 ?_
          obtain rfl := Option.some.inj h
          exact q_iret rfl (q_b_nar _) dX7_beginsLine_120 hQ
  replace h := hv
  refine q_if_eq 41 (by decide) dX7_beginsLine_10 (fun c => ?_) (fun c => ?_)
  · have c := q_b_0.mp c; rw [q_if0 c] at h
    refine q_iconst (v := (-1 : Int32)) (by decide) dX7_beginsLine_41 ?_
    obtain rfl := Option.some.inj h
    refine q_sub [1, 2, 0] rfl ?_
    exact K1
  · have c := q_b_n.mp c; rw [q_if1 c] at h
    refine q_aload_n 1 rfl rfl dX7_beginsLine_13 ?_
    refine q_getR (q_sh77 w) (by decide) (by decide) rfl lfX7_17 dX7_beginsLine_14 (r := 2) (q_wr77_0 w) ?_
    refine q_ldcS (j := 13) (r := 1000026) rfl rfl dX7_beginsLine_17 ?_
    refine q_aload_n 1 rfl rfl dX7_beginsLine_19 ?_
    refine q_getR (q_sh77 w) (by decide) (by decide) rfl lfX7_17 dX7_beginsLine_20 (r := 2) (q_wr77_0 w) ?_
    refine q_iload_n 2 rfl rfl dX7_beginsLine_23 ?_
    obtain ⟨r3, e4, h⟩ := q_bind h
    refine q_callV (ci := 8) (d := 5) (Mc := mX8_start) (kc := 0) (nc := 0) [.int x1] okX8_start (q_sh2 w) (by decide) rfl lmX7_112 inX8_start seX8_start rfl (Nat.le_of_ble_eq_true rfl) (Nat.le_of_ble_eq_true rfl) (Nat.le_refl _) (Nat.le_refl _) dX7_beginsLine_24 (q_L.deep (by decide) (kX8_start (Q := fun r S' => r = some (.int r3) ∧ S' = S) w e4 ⟨rfl, rfl⟩)) (q_kI ?_)
    refine q_aload_n 1 rfl rfl dX7_beginsLine_27 ?_
    refine q_getR (q_sh77 w) (by decide) (by decide) rfl lfX7_17 dX7_beginsLine_28 (r := 2) (q_wr77_0 w) ?_
    refine q_iload_n 2 rfl rfl dX7_beginsLine_31 ?_
    obtain ⟨r5, e6, h⟩ := q_bind h
    refine q_callV (ci := 8) (d := 5) (Mc := mX8_stop) (kc := 0) (nc := 0) [.int x1] okX8_stop (q_sh2 w) (by decide) rfl lmX7_116 inX8_stop seX8_stop rfl (Nat.le_of_ble_eq_true rfl) (Nat.le_of_ble_eq_true rfl) (Nat.le_refl _) (Nat.le_refl _) dX7_beginsLine_32 (q_L.deep (by decide) (kX8_stop (Q := fun r S' => r = some (.int r5) ∧ S' = S) w e6 ⟨rfl, rfl⟩)) (q_kI ?_)
    obtain ⟨r7, e8, h⟩ := q_bind h
    refine q_callV (ci := 8) (d := 5) (Mc := mX8_numberIn) (kc := 0) (nc := 0) [.ref 1000026, .int r3, .int r5] okX8_numberIn (q_sh2 w) (by decide) rfl lmX7_119 inX8_numberIn seX8_numberIn rfl (Nat.le_of_ble_eq_true rfl) (Nat.le_of_ble_eq_true rfl) (Nat.le_refl _) (Nat.le_refl _) dX7_beginsLine_35 (q_L.deep (by decide) (kX8_numberIn (Q := fun r S' => r = some (.int r7) ∧ S' = S) w e8 ⟨rfl, rfl⟩)) (q_kI ?_)
    refine q_goto 42 (by decide) dX7_beginsLine_38 ?_
    obtain rfl := Option.some.inj h
    refine q_sub [1, 2, 0] rfl ?_
    exact K1
set_option maxRecDepth 20000 in
theorem kX7_begins_57 {S : QS} {g : QG} {Q : Option Value → QS → Prop}  {y1 : Int32} {r : Bool × QS} (w : q_Wire S) (h : fX7_begins_57 S y1 = some r) (hQ : Q (some (.int (q_b r.1))) r.2) : q_L g mX7_begins 7 0 0 Q 0 0 57 [(0, .ref 77), (1, .int y1)] [] S := by
  unfold fX7_begins_57 at h
  refine q_aload_n 0 rfl rfl dX7_begins_57 ?_
  refine q_getI (q_sh77 w) (by decide) (by decide) rfl lfX7_25 dX7_begins_58 ?_
  by_cases c1 : (S.2.1 77 3) = (0 : Int32)
  · rw [if_pos c1] at h
    refine q_lookup (M := mX7_begins) (pc := 61) (x := (S.2.1 77 3)) 88 (by decide) (by rw [c1] <;> rfl) (by decide) dX7_begins_61 ?_
    refine q_aload_n 0 rfl rfl dX7_begins_88 ?_
    refine q_iload_n 1 rfl rfl dX7_begins_89 ?_
    obtain ⟨r2, e3, h⟩ := q_bind h
    refine q_callV (ci := 7) (d := 6) (Mc := mX7_beginsClass) (kc := 0) (nc := 0) [.int y1] okX7_beginsClass (q_sh77 w) (by decide) rfl lmX7_83 inX7_beginsClass seX7_beginsClass rfl (Nat.le_of_ble_eq_true rfl) (Nat.le_of_ble_eq_true rfl) (Nat.le_refl _) (Nat.le_refl _) dX7_begins_90 (q_L.deep (by decide) (kX7_beginsClass (Q := fun r S' => r = some (.int (q_b r2.1)) ∧ S' = r2.2) w e3 ⟨rfl, rfl⟩)) (q_kI ?_)
    have fx4 : q_Fx S r2.2 := q_Fx.tr (q_Fx.rf S) (fxX7_beginsClass e3)
    obtain rfl := Option.some.inj h
    exact q_iret rfl (q_b_nar _) dX7_begins_93 hQ
  rw [if_neg c1] at h
  by_cases c5 : (S.2.1 77 3) = (1 : Int32)
  · rw [if_pos c5] at h
    refine q_lookup (M := mX7_begins) (pc := 61) (x := (S.2.1 77 3)) 94 (by decide) (by rw [c5] <;> rfl) (by decide) dX7_begins_61 ?_
    refine q_aload_n 0 rfl rfl dX7_begins_94 ?_
    refine q_iload_n 1 rfl rfl dX7_begins_95 ?_
    obtain ⟨r6, e7, h⟩ := q_bind h
    refine q_callV (ci := 7) (d := 6) (Mc := mX7_beginsMember) (kc := 0) (nc := 0) [.int y1] okX7_beginsMember (q_sh77 w) (by decide) rfl lmX7_86 inX7_beginsMember seX7_beginsMember rfl (Nat.le_of_ble_eq_true rfl) (Nat.le_of_ble_eq_true rfl) (Nat.le_refl _) (Nat.le_refl _) dX7_begins_96 (q_L.deep (by decide) (kX7_beginsMember (Q := fun r S' => r = some (.int (q_b r6.1)) ∧ S' = r6.2) w e7 ⟨rfl, rfl⟩)) (q_kI ?_)
    have fx8 : q_Fx S r6.2 := q_Fx.tr (q_Fx.rf S) (fxX7_beginsMember e7)
    obtain rfl := Option.some.inj h
    exact q_iret rfl (q_b_nar _) dX7_begins_99 hQ
  rw [if_neg c5] at h
  refine q_lookup (M := mX7_begins) (pc := 61) (x := (S.2.1 77 3)) (off := 39) 100 (by decide) (by rw [lv_osw c1 (by decide), lv_osw c5 (by decide)] <;> rfl) (by decide) dX7_begins_61 ?_
  refine q_aload_n 0 rfl rfl dX7_begins_100 ?_
  refine q_iload_n 1 rfl rfl dX7_begins_101 ?_
  obtain ⟨r9, e10, h⟩ := q_bind h
  refine q_callV (ci := 7) (d := 6) (Mc := mX7_beginsLine) (kc := 0) (nc := 0) [.int y1] okX7_beginsLine (q_sh77 w) (by decide) rfl lmX7_89 inX7_beginsLine seX7_beginsLine rfl (Nat.le_of_ble_eq_true rfl) (Nat.le_of_ble_eq_true rfl) (Nat.le_refl _) (Nat.le_refl _) dX7_begins_102 (q_L.deep (by decide) (kX7_beginsLine (Q := fun r S' => r = some (.int (q_b r9.1)) ∧ S' = r9.2) w e10 ⟨rfl, rfl⟩)) (q_kI ?_)
  have fx11 : q_Fx S r9.2 := q_Fx.tr (q_Fx.rf S) (fxX7_beginsLine e10)
  obtain rfl := Option.some.inj h
  exact q_iret rfl (q_b_nar _) dX7_begins_105 hQ
set_option maxRecDepth 20000 in
theorem kX7_begins {S : QS} {g : QG} {Q : Option Value → QS → Prop}  {x1 : Int32} {r : Bool × QS} (w : q_Wire S) (h : fX7_begins S x1 = some r) (hQ : Q (some (.int (q_b r.1))) r.2) : q_M g mX7_begins 7 0 0 [.ref 77, .int x1] S Q := by
  unfold fX7_begins at h
  show q_L g mX7_begins 7 0 0 Q 0 0 0 [(0, .ref 77), (1, .int x1)] [] S
  refine q_aload_n 0 rfl rfl dX7_begins_0 ?_
  refine q_getI (q_sh77 w) (by decide) (by decide) rfl lfX7_25 dX7_begins_1 ?_
  refine q_if_le 57 (by decide) dX7_begins_4 (fun c => ?_) (fun c => ?_)
  · rw [if_pos c] at h
    refine q_sub [0, 1] rfl ?_
    exact kX7_begins_57 w h hQ
  · rw [if_neg c] at h
    refine q_aload_n 0 rfl rfl dX7_begins_7 ?_
    refine q_getR (q_sh77 w) (by decide) (by decide) rfl lfX7_17 dX7_begins_8 (r := 2) (q_wr77_0 w) ?_
    refine q_iload_n 1 rfl rfl dX7_begins_11 ?_
    refine q_bipush (v := (125 : Int32)) (by decide) dX7_begins_12 ?_
    obtain ⟨r12, e13, h⟩ := q_bind h
    refine q_callV (ci := 8) (d := 6) (Mc := mX8_isMark) (kc := 0) (nc := 0) [.int x1, .int (125 : Int32)] okX8_isMark (q_sh2 w) (by decide) rfl lmX7_55 inX8_isMark seX8_isMark rfl (Nat.le_of_ble_eq_true rfl) (Nat.le_of_ble_eq_true rfl) (Nat.le_refl _) (Nat.le_refl _) dX7_begins_14 (q_L.deep (by decide) (kX8_isMark (Q := fun r S' => r = some (.int (q_b r12)) ∧ S' = S) w e13 ⟨rfl, rfl⟩)) (q_kI ?_)
    refine q_if_eq 57 (by decide) dX7_begins_17 (fun c => ?_) (fun c => ?_)
    · have c := q_b_0.mp c; rw [q_if0 c] at h
      refine q_sub [0, 1] rfl ?_
      exact kX7_begins_57 w h hQ
    · have c := q_b_n.mp c; rw [q_if1 c] at h
      refine q_aload_n 0 rfl rfl dX7_begins_20 ?_
      refine q_dup rfl dX7_begins_21 ?_
      refine q_getI (q_sh77 w) (by decide) (by decide) rfl lfX7_25 dX7_begins_22 ?_
      refine q_iconst (v := (1 : Int32)) (by decide) dX7_begins_25 ?_
      refine q_isub dX7_begins_26 ?_
      refine q_putI (q_sh77 w) (by decide) (by decide) rfl rfl ⟨rfl, rfl⟩ lfX7_25 dX7_begins_27 ?_
      obtain ⟨S14, e15, h⟩ := q_bindS h
      refine q_st e15 ?_
      have fx16 : q_Fx S S14 := e15 ▸ q_Fx.sI (q_Fx.rf S)
      refine q_aload_n 0 rfl rfl dX7_begins_30 ?_
      refine q_getR (q_sh77 (w.fx fx16)) (by decide) (by decide) rfl lfX7_17 dX7_begins_31 (r := 2) (q_wr77_0 (w.fx fx16)) ?_
      refine q_getRN (q_sh2 (w.fx fx16)) (by decide) (by decide) rfl lfX7_33 dX7_begins_34 (r := 6) (q_wr2_4 (w.fx fx16)) ?_
      refine q_iload_n 1 rfl rfl dX7_begins_37 ?_
      refine q_aload_n 0 rfl rfl dX7_begins_38 ?_
      refine q_getI (q_sh77 (w.fx fx16)) (by decide) (by decide) rfl lfX7_25 dX7_begins_39 ?_
      refine q_iconst (v := (1 : Int32)) (by decide) dX7_begins_42 ?_
      obtain ⟨v17, hv, h⟩ := q_bind h
      have K1 : q_L g mX7_begins 7 0 0 Q 0 0 53 [] [.int v17, .int x1, .ref 6] S14 := by
        refine q_i2b dX7_begins_53 ?_
        obtain ⟨hg18, h⟩ := q_guard h
        refine q_bast (q_sh6 (w.fx fx16)) (q_inb_in hg18) dX7_begins_54 ?_
        obtain ⟨S19, e20, h⟩ := q_bindS h
        refine q_st e20 ?_
        have fx21 : q_Fx S S19 := e20 ▸ q_Fx.sI (fx16)
        refine q_iconst (v := (1 : Int32)) (by decide) dX7_begins_55 ?_
        obtain rfl := Option.some.inj h
        exact q_iret rfl (by decide) dX7_begins_56 hQ
      replace h := hv
      refine q_icmp_ne 51 (by decide) dX7_begins_43 (fun c => ?_) (fun c => ?_)
      · rw [if_neg c] at h
        refine q_bipush (v := (53 : Int32)) (by decide) dX7_begins_51 ?_
        obtain rfl := Option.some.inj h
        refine q_sub [] rfl ?_
        exact K1
      · rw [if_pos c] at h
        refine q_bipush (v := (52 : Int32)) (by decide) dX7_begins_46 ?_
        refine q_goto 53 (by decide) dX7_begins_48 ?_
        obtain rfl := Option.some.inj h
        refine q_sub [] rfl ?_
        exact K1
set_option maxRecDepth 20000 in
theorem sX7_firstFault_18 {g : QG} {Q : Option Value → QS → Prop}   {x : Int32 × QS} {z : (Int32 × QS) ⊕ (Int32 × QS)} (w : q_Wire x.2) (h : tX7_firstFault_18 x = some z) (hQ : (Sum.elim (fun r0 : Int32 × QS => Q (some (.int r0.1)) r0.2) (fun y : Int32 × QS => q_L g mX7_firstFault 8 0 0 Q 0 0 18 [(0, .ref 77), (1, .int y.1)] [] y.2) z)) : q_L g mX7_firstFault 8 0 0 Q 0 0 18 [(0, .ref 77), (1, .int x.1)] [] x.2 := by
  unfold tX7_firstFault_18 at h
  refine q_iload_n 1 rfl rfl dX7_firstFault_18 ?_
  refine q_aload_n 0 rfl rfl dX7_firstFault_19 ?_
  refine q_getR (q_sh77 w) (by decide) (by decide) rfl lfX7_17 dX7_firstFault_20 (r := 2) (q_wr77_0 w) ?_
  refine q_getIN (q_sh2 w) (by decide) (by decide) rfl lfX7_28 dX7_firstFault_23 ?_
  refine q_icmp_ge 91 (by decide) dX7_firstFault_26 (fun c => ?_) (fun c => ?_)
  · rw [if_pos c] at h
    refine q_aload_n 0 rfl rfl dX7_firstFault_91 ?_
    refine q_getI (q_sh77 w) (by decide) (by decide) rfl lfX7_25 dX7_firstFault_92 ?_
    refine q_if_ne 116 (by decide) dX7_firstFault_95 (fun c => ?_) (fun c => ?_)
    · rw [if_neg c] at h
      refine q_aload_n 0 rfl rfl dX7_firstFault_116 ?_
      refine q_getR (q_sh77 w) (by decide) (by decide) rfl lfX7_17 dX7_firstFault_117 (r := 2) (q_wr77_0 w) ?_
      refine q_getIN (q_sh2 w) (by decide) (by decide) rfl lfX7_28 dX7_firstFault_120 ?_
      cases h
      exact q_iret rfl rfl dX7_firstFault_123 hQ
    · rw [if_pos c] at h
      refine q_aload_n 0 rfl rfl dX7_firstFault_98 ?_
      refine q_getI (q_sh77 w) (by decide) (by decide) rfl lfX7_21 dX7_firstFault_99 ?_
      refine q_aload_n 0 rfl rfl dX7_firstFault_102 ?_
      refine q_getR (q_sh77 w) (by decide) (by decide) rfl lfX7_11 dX7_firstFault_103 (r := (x.2.2.2.2 77 1)) rfl ?_
      obtain ⟨r1, e2, h⟩ := q_bind h
      obtain ⟨js, own, ix, tx, bs, hj, hr, _⟩ := q_isS_of (fJ0_length_str e2)
      refine q_callT (d := 7) (Mc := mJ0_length_8abf5) (kc := 0) (nc := 0) [] okJ0_length_8abf5 hj hr rfl lmX7_37 inJ0_length_8abf5 seJ0_length_8abf5 rfl (Nat.le_of_ble_eq_true rfl) (Nat.le_of_ble_eq_true rfl) (Nat.le_refl _) (Nat.le_refl _) dX7_firstFault_106 (q_L.deep (by decide) (kJ0_length_8abf5 (Q := fun r S' => r = some (.int r1) ∧ S' = x.2)  e2 ⟨rfl, rfl⟩)) (q_kI ?_)
      refine q_icmp_ne 116 (by decide) dX7_firstFault_109 (fun c => ?_) (fun c => ?_)
      · rw [if_neg c] at h
        refine q_aload_n 0 rfl rfl dX7_firstFault_116 ?_
        refine q_getR (q_sh77 w) (by decide) (by decide) rfl lfX7_17 dX7_firstFault_117 (r := 2) (q_wr77_0 w) ?_
        refine q_getIN (q_sh2 w) (by decide) (by decide) rfl lfX7_28 dX7_firstFault_120 ?_
        cases h
        exact q_iret rfl rfl dX7_firstFault_123 hQ
      · rw [if_pos c] at h
        refine q_iconst (v := (-1 : Int32)) (by decide) dX7_firstFault_112 ?_
        refine q_goto 123 (by decide) dX7_firstFault_113 ?_
        cases h
        exact q_iret rfl rfl dX7_firstFault_123 hQ
  · rw [if_neg c] at h
    refine q_aload_n 0 rfl rfl dX7_firstFault_29 ?_
    refine q_getR (q_sh77 w) (by decide) (by decide) rfl lfX7_17 dX7_firstFault_30 (r := 2) (q_wr77_0 w) ?_
    refine q_getRN (q_sh2 w) (by decide) (by decide) rfl lfX7_33 dX7_firstFault_33 (r := 6) (q_wr2_4 w) ?_
    refine q_iload_n 1 rfl rfl dX7_firstFault_36 ?_
    refine q_bipush (v := (53 : Int32)) (by decide) dX7_firstFault_37 ?_
    obtain ⟨hg4, h⟩ := q_guard h
    refine q_bast (q_sh6 w) (q_inb_in hg4) dX7_firstFault_39 ?_
    obtain ⟨S5, e6, h⟩ := q_bindS h
    refine q_st e6 ?_
    have fx7 : q_Fx x.2 S5 := e6 ▸ q_Fx.sI (q_Fx.rf x.2)
    refine q_aload_n 0 rfl rfl dX7_firstFault_40 ?_
    refine q_getI (q_sh77 (w.fx fx7)) (by decide) (by decide) rfl lfX7_21 dX7_firstFault_41 ?_
    refine q_aload_n 0 rfl rfl dX7_firstFault_44 ?_
    refine q_getR (q_sh77 (w.fx fx7)) (by decide) (by decide) rfl lfX7_11 dX7_firstFault_45 (r := (S5.2.2.2 77 1)) rfl ?_
    obtain ⟨r8, e9, h⟩ := q_bind h
    obtain ⟨js, own, ix, tx, bs, hj, hr, _⟩ := q_isS_of (fJ0_length_str e9)
    refine q_callT (d := 7) (Mc := mJ0_length_8abf5) (kc := 0) (nc := 0) [] okJ0_length_8abf5 hj hr rfl lmX7_37 inJ0_length_8abf5 seJ0_length_8abf5 rfl (Nat.le_of_ble_eq_true rfl) (Nat.le_of_ble_eq_true rfl) (Nat.le_refl _) (Nat.le_refl _) dX7_firstFault_48 (q_L.deep (by decide) (kJ0_length_8abf5 (Q := fun r S' => r = some (.int r8) ∧ S' = S5)  e9 ⟨rfl, rfl⟩)) (q_kI ?_)
    obtain ⟨v20, hv, h⟩ := q_bind h
    have fx21 : q_Fx x.2 v20.2 := by
      replace h := hv
      by_cases c : r8 ≤ (S5.2.1 77 2)
      · rw [if_pos c] at h
        obtain ⟨r11, e12, h⟩ := q_bind h
        have fx13 : q_Fx x.2 r11.2 := q_Fx.tr (fx7) (fxX7_begins e12)
        obtain rfl := Option.some.inj h
        exact fx13
      · rw [if_neg c] at h
        obtain ⟨r14, e15, h⟩ := q_bind h
        obtain ⟨r17, e18, h⟩ := q_bind h
        have fx19 : q_Fx x.2 r17.2 := q_Fx.tr (fx7) (fxX7_takesPart e18)
        obtain rfl := Option.some.inj h
        exact fx19
    have K1 : q_L g mX7_firstFault 8 0 0 Q 0 0 78 [(0, .ref 77), (1, .int x.1)] [.int (q_b v20.1)] v20.2 := by
      refine q_istore_n [(2, .int (q_b v20.1)), (0, .ref 77), (1, .int x.1)] rfl (by decide) rfl dX7_firstFault_78 ?_
      refine q_iload_n 0 rfl rfl dX7_firstFault_79 ?_
      refine q_if_ne 85 (by decide) dX7_firstFault_80 (fun c => ?_) (fun c => ?_)
      · have c := q_b_n.mp c; rw [q_if1 c] at h
        refine q_iinc (v := (x.1 + (1 : Int32))) 2 [(1, .int (x.1 + (1 : Int32))), (2, .int (q_b v20.1)), (0, .ref 77)] (by decide) rfl (congrArg (fun t => x.1 + t) (by decide)) rfl dX7_firstFault_85 ?_
        refine q_goto 18 (by decide) dX7_firstFault_88 ?_
        refine q_sub [2, 0] rfl ?_
        cases h
        exact hQ
      · have c := q_b_0.mp c; rw [q_if0 c] at h
        refine q_iload_n 2 rfl rfl dX7_firstFault_83 ?_
        cases h
        exact q_iret rfl rfl dX7_firstFault_84 hQ
    replace h := hv
    refine q_icmp_ge 73 (by decide) dX7_firstFault_51 (fun c => ?_) (fun c => ?_)
    · rw [if_pos c] at h
      refine q_aload_n 0 rfl rfl dX7_firstFault_73 ?_
      refine q_iload_n 1 rfl rfl dX7_firstFault_74 ?_
      obtain ⟨r11, e12, h⟩ := q_bind h
      refine q_callV (ci := 7) (d := 7) (Mc := mX7_begins) (kc := 0) (nc := 0) [.int x.1] okX7_begins (q_sh77 (w.fx fx7)) (by decide) rfl lmX7_51 inX7_begins seX7_begins rfl (Nat.le_of_ble_eq_true rfl) (Nat.le_of_ble_eq_true rfl) (Nat.le_refl _) (Nat.le_refl _) dX7_firstFault_75 (q_L.deep (by decide) (kX7_begins (Q := fun r S' => r = some (.int (q_b r11.1)) ∧ S' = r11.2) (w.fx fx7) e12 ⟨rfl, rfl⟩)) (q_kI ?_)
      have fx13 : q_Fx x.2 r11.2 := q_Fx.tr (fx7) (fxX7_begins e12)
      obtain rfl := Option.some.inj h
      refine q_sub [0, 1] rfl ?_
      exact K1
    · rw [if_neg c] at h
      refine q_aload_n 0 rfl rfl dX7_firstFault_54 ?_
      refine q_iload_n 1 rfl rfl dX7_firstFault_55 ?_
      refine q_aload_n 0 rfl rfl dX7_firstFault_56 ?_
      refine q_getR (q_sh77 (w.fx fx7)) (by decide) (by decide) rfl lfX7_11 dX7_firstFault_57 (r := (S5.2.2.2 77 1)) rfl ?_
      refine q_aload_n 0 rfl rfl dX7_firstFault_60 ?_
      refine q_getI (q_sh77 (w.fx fx7)) (by decide) (by decide) rfl lfX7_21 dX7_firstFault_61 ?_
      obtain ⟨r14, e15, h⟩ := q_bind h
      obtain ⟨js, own, ix, tx, bs, hj, hr, _⟩ := q_isS_of (fJ0_charAt_str e15)
      refine q_callT (d := 7) (Mc := mJ0_charAt_5068e) (kc := 0) (nc := 0) [.int (S5.2.1 77 2)] okJ0_charAt_5068e hj hr rfl lmX7_43 inJ0_charAt_5068e seJ0_charAt_5068e rfl (Nat.le_of_ble_eq_true rfl) (Nat.le_of_ble_eq_true rfl) (Nat.le_refl _) (Nat.le_refl _) dX7_firstFault_64 (q_L.deep (by decide) (kJ0_charAt_5068e (Q := fun r S' => r = some (.int r14) ∧ S' = S5)  e15 ⟨rfl, rfl⟩)) (q_kI ?_)
      obtain ⟨r17, e18, h⟩ := q_bind h
      refine q_callV (ci := 7) (d := 7) (Mc := mX7_takesPart) (kc := 0) (nc := 0) [.int x.1, .int r14] okX7_takesPart (q_sh77 (w.fx fx7)) (by decide) rfl lmX7_47 inX7_takesPart seX7_takesPart rfl (Nat.le_of_ble_eq_true rfl) (Nat.le_of_ble_eq_true rfl) (Nat.le_refl _) (Nat.le_refl _) dX7_firstFault_67 (q_L.deep (by decide) (kX7_takesPart (Q := fun r S' => r = some (.int (q_b r17.1)) ∧ S' = r17.2) (w.fx fx7) e18 ⟨rfl, rfl⟩)) (q_kI ?_)
      have fx19 : q_Fx x.2 r17.2 := q_Fx.tr (fx7) (fxX7_takesPart e18)
      refine q_goto 78 (by decide) dX7_firstFault_70 ?_
      obtain rfl := Option.some.inj h
      refine q_sub [0, 1] rfl ?_
      exact K1
theorem lX7_firstFault_18 {g : QG} {Q : Option Value → QS → Prop}   {r : Int32 × QS}  (hQ : Q (some (.int r.1)) r.2) : ∀ (c : Nat) (x : Int32 × QS), q_Wire x.2 → q_it (tX7_firstFault_18) c x = some r → q_L g mX7_firstFault 8 0 0 Q 0 0 18 [(0, .ref 77), (1, .int x.1)] [] x.2 := by
  intro c
  induction c with
  | zero => intro x w h; cases h
  | succ c ih =>
    intro x w h
    simp only [q_it] at h
    cases hz : tX7_firstFault_18 x with
    | none => rw [hz] at h; cases h
    | some z =>
      rw [hz] at h
      refine sX7_firstFault_18 w hz ?_
      rcases z with z | y
      · cases h; exact hQ
      · have fz := fxtX7_firstFault_18 hz; exact ih y (w.fx fz) h
theorem kX7_firstFault_18 {S : QS} {g : QG} {Q : Option Value → QS → Prop}  {y1 : Int32} {r : Int32 × QS} (w : q_Wire S) (h : fX7_firstFault_18 S y1 = some r) (hQ : Q (some (.int r.1)) r.2) : q_L g mX7_firstFault 8 0 0 Q 0 0 18 [(0, .ref 77), (1, .int y1)] [] S := by
  obtain ⟨c, hc⟩ := q_run_it h
  exact lX7_firstFault_18  hQ c (y1, S) w hc
set_option maxRecDepth 20000 in
theorem kX7_firstFault {S : QS} {g : QG} {Q : Option Value → QS → Prop}   {r : Int32 × QS} (w : q_Wire S) (h : fX7_firstFault S = some r) (hQ : Q (some (.int r.1)) r.2) : q_M g mX7_firstFault 8 0 0 [.ref 77] S Q := by
  unfold fX7_firstFault at h
  show q_L g mX7_firstFault 8 0 0 Q 0 0 0 [(0, .ref 77)] [] S
  refine q_aload_n 0 rfl rfl dX7_firstFault_0 ?_
  refine q_ldcS (j := 0) (r := 1000000) rfl rfl dX7_firstFault_1 ?_
  refine q_putR (q_sh77 w) (by decide) (by decide) rfl rfl lfX7_11 dX7_firstFault_3 ?_
  obtain ⟨S22, e23, h⟩ := q_bindS h
  refine q_st e23 ?_
  have fx24 : q_Fx S S22 := e23 ▸ q_Fx.sT (q_Fx.rf S)
  refine q_aload_n 0 rfl rfl dX7_firstFault_6 ?_
  refine q_iconst (v := (0 : Int32)) (by decide) dX7_firstFault_7 ?_
  refine q_putI (q_sh77 (w.fx fx24)) (by decide) (by decide) rfl rfl ⟨rfl, rfl⟩ lfX7_21 dX7_firstFault_8 ?_
  obtain ⟨S25, e26, h⟩ := q_bindS h
  refine q_st e26 ?_
  have fx27 : q_Fx S S25 := e26 ▸ q_Fx.sI (fx24)
  refine q_aload_n 0 rfl rfl dX7_firstFault_11 ?_
  refine q_iconst (v := (0 : Int32)) (by decide) dX7_firstFault_12 ?_
  refine q_putI (q_sh77 (w.fx fx27)) (by decide) (by decide) rfl rfl ⟨rfl, rfl⟩ lfX7_25 dX7_firstFault_13 ?_
  obtain ⟨S28, e29, h⟩ := q_bindS h
  refine q_st e29 ?_
  have fx30 : q_Fx S S28 := e29 ▸ q_Fx.sI (fx27)
  refine q_iconst (v := (0 : Int32)) (by decide) dX7_firstFault_16 ?_
  refine q_istore_n [(1, .int (0 : Int32)), (0, .ref 77)] rfl (by decide) rfl dX7_firstFault_17 ?_
  refine q_sub [1, 0] rfl ?_
  exact kX7_firstFault_18 (w.fx fx30) h hQ
