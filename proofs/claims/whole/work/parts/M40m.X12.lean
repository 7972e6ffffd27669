set_option maxRecDepth 20000 in
theorem kX12_step {S : QS} {g : QG} {Q : Option Value → QS → Prop} {qs : Nat} {q : Nat} {x1 : Int32} {r : QS} (w : q_Wire S) (hq : q_qok q) (aM : q_aM S q qs) (h : fX12_step S q x1 = some r) (hQ : Q none r) : q_M g mX12_step 6 0 0 [.ref 102, .int x1] S Q := by
  unfold fX12_step at h
  show q_L g mX12_step 6 0 0 Q 0 0 0 [(0, .ref 102), (1, .int x1)] [] S
  refine q_aload_n 0 rfl rfl dX12_step_0 ?_
  refine q_getR (q_sh102 w) (by decide) (by decide) rfl lfX12_10 dX12_step_1 (r := q) (aM).1 ?_
  refine q_getR (q_shQ0 w hq) (by decide) (by decide) rfl lfX12_353 dX12_step_4 (r := (q + 15)) (q_wrQ0_21 w hq) ?_
  refine q_iload_n 1 rfl rfl dX12_step_7 ?_
  obtain ⟨hg1, h⟩ := q_guard h
  refine q_iald (q_shQ15 w hq) (q_inb_in hg1) dX12_step_8 ?_
  refine q_istore_n [(2, .int (S.2.1 (q + 15) x1.toNatClampNeg)), (0, .ref 102), (1, .int x1)] rfl (by decide) rfl dX12_step_9 ?_
  refine q_aload_n 1 rfl rfl dX12_step_10 ?_
  refine q_getR (q_sh102 w) (by decide) (by decide) rfl lfX12_10 dX12_step_11 (r := q) (aM).1 ?_
  refine q_getR (q_shQ0 w hq) (by decide) (by decide) rfl lfX12_376 dX12_step_14 (r := (q + 16)) (q_wrQ0_22 w hq) ?_
  refine q_iload_n 2 rfl rfl dX12_step_17 ?_
  obtain ⟨hg2, h⟩ := q_guard h
  refine q_iald (q_shQ16 w hq) (q_inb_in hg2) dX12_step_18 ?_
  refine q_istore_n [(3, .int (S.2.1 (q + 16) x1.toNatClampNeg)), (2, .int (S.2.1 (q + 15) x1.toNatClampNeg)), (0, .ref 102), (1, .int x1)] rfl (by decide) rfl dX12_step_19 ?_
  refine q_iload_n 1 rfl rfl dX12_step_20 ?_
  by_cases c3 : (S.2.1 (q + 15) x1.toNatClampNeg) = (0 : Int32)
  · rw [if_pos c3] at h
    refine q_tabIn (M := mX12_step) (pc := 21) (x := (S.2.1 (q + 15) x1.toNatClampNeg)) 220 (by rw [c3]; decide) (by rw [c3]; decide) (by rw [c3]; rfl) (by decide) dX12_step_21 ?_
    refine q_aload_n 2 rfl rfl dX12_step_220 ?_
    refine q_iload_n 0 rfl rfl dX12_step_221 ?_
    refine q_i2l dX12_step_222 ?_
    obtain ⟨r4, e5, h⟩ := q_bind h
    refine q_callV (ci := 12) (d := 5) (Mc := mX12_push) (kc := 0) (nc := 0) [.long (S.2.1 (q + 16) x1.toNatClampNeg).toInt64] okX12_push (q_sh102 w) (by decide) rfl lmX12_582 inX12_push seX12_push rfl (Nat.le_of_ble_eq_true rfl) (Nat.le_of_ble_eq_true rfl) (Nat.le_refl _) (Nat.le_refl _) dX12_step_223 (q_L.deep (by decide) (kX12_push (Q := fun r S' => r = none ∧ S' = r4) w e5 ⟨rfl, rfl⟩)) (q_kV ?_)
    have fx6 : q_Fx S r4 := q_Fx.tr (q_Fx.rf S) (fxX12_push e5)
    refine q_goto 538 (by decide) dX12_step_226 ?_
    refine q_aload_n 2 rfl rfl dX12_step_538 ?_
    obtain ⟨r7, e8, h⟩ := q_bind h
    refine q_callV (ci := 12) (d := 5) (Mc := mX12_next) (kc := 0) (nc := 0) [] okX12_next (q_sh102 (w.fx fx6)) (by decide) rfl lmX12_600 inX12_next seX12_next rfl (Nat.le_of_ble_eq_true rfl) (Nat.le_of_ble_eq_true rfl) (Nat.le_refl _) (Nat.le_refl _) dX12_step_539 (q_L.deep (by decide) (kX12_next (Q := fun r S' => r = none ∧ S' = r7) (w.fx fx6) e8 ⟨rfl, rfl⟩)) (q_kV ?_)
    have fx9 : q_Fx S r7 := q_Fx.tr (fx6) (fxX12_next e8)
    obtain rfl := Option.some.inj h
    exact q_vret rfl dX12_step_542 hQ
  rw [if_neg c3] at h
  by_cases c10 : (S.2.1 (q + 15) x1.toNatClampNeg) = (1 : Int32)
  · rw [if_pos c10] at h
    refine q_tabIn (M := mX12_step) (pc := 21) (x := (S.2.1 (q + 15) x1.toNatClampNeg)) 229 (by rw [c10]; decide) (by rw [c10]; decide) (by rw [c10]; rfl) (by decide) dX12_step_21 ?_
    refine q_aload_n 2 rfl rfl dX12_step_229 ?_
    refine q_ldc2 lkX12_553 dX12_step_230 ?_
    obtain ⟨r11, e12, h⟩ := q_bind h
    refine q_callV (ci := 12) (d := 5) (Mc := mX12_push) (kc := 0) (nc := 0) [.long (1099511627776 : Int64)] okX12_push (q_sh102 w) (by decide) rfl lmX12_582 inX12_push seX12_push rfl (Nat.le_of_ble_eq_true rfl) (Nat.le_of_ble_eq_true rfl) (Nat.le_refl _) (Nat.le_refl _) dX12_step_233 (q_L.deep (by decide) (kX12_push (Q := fun r S' => r = none ∧ S' = r11) w e12 ⟨rfl, rfl⟩)) (q_kV ?_)
    have fx13 : q_Fx S r11 := q_Fx.tr (q_Fx.rf S) (fxX12_push e12)
    refine q_goto 538 (by decide) dX12_step_236 ?_
    refine q_aload_n 2 rfl rfl dX12_step_538 ?_
    obtain ⟨r14, e15, h⟩ := q_bind h
    refine q_callV (ci := 12) (d := 5) (Mc := mX12_next) (kc := 0) (nc := 0) [] okX12_next (q_sh102 (w.fx fx13)) (by decide) rfl lmX12_600 inX12_next seX12_next rfl (Nat.le_of_ble_eq_true rfl) (Nat.le_of_ble_eq_true rfl) (Nat.le_refl _) (Nat.le_refl _) dX12_step_539 (q_L.deep (by decide) (kX12_next (Q := fun r S' => r = none ∧ S' = r14) (w.fx fx13) e15 ⟨rfl, rfl⟩)) (q_kV ?_)
    have fx16 : q_Fx S r14 := q_Fx.tr (fx13) (fxX12_next e15)
    obtain rfl := Option.some.inj h
    exact q_vret rfl dX12_step_542 hQ
  rw [if_neg c10] at h
  by_cases c17 : (S.2.1 (q + 15) x1.toNatClampNeg) = (2 : Int32)
  · rw [if_pos c17] at h
    refine q_tabIn (M := mX12_step) (pc := 21) (x := (S.2.1 (q + 15) x1.toNatClampNeg)) 239 (by rw [c17]; decide) (by rw [c17]; decide) (by rw [c17]; rfl) (by decide) dX12_step_21 ?_
    refine q_aload_n 2 rfl rfl dX12_step_239 ?_
    refine q_aload_n 2 rfl rfl dX12_step_240 ?_
    refine q_iload_n 0 rfl rfl dX12_step_241 ?_
    obtain ⟨r18, e19, h⟩ := q_bind h
    refine q_callV (ci := 12) (d := 5) (Mc := mX12_local) (kc := 0) (nc := 0) [.int (S.2.1 (q + 16) x1.toNatClampNeg)] okX12_local (q_sh102 w) (by decide) rfl lmX12_555 inX12_local seX12_local rfl (Nat.le_of_ble_eq_true rfl) (Nat.le_of_ble_eq_true rfl) (Nat.le_refl _) (Nat.le_refl _) dX12_step_242 (q_L.deep (by decide) (kX12_local (Q := fun r S' => r = some (.long r18) ∧ S' = S) w e19 ⟨rfl, rfl⟩)) (q_kJ ?_)
    obtain ⟨r20, e21, h⟩ := q_bind h
    refine q_callV (ci := 12) (d := 5) (Mc := mX12_push) (kc := 0) (nc := 0) [.long r18] okX12_push (q_sh102 w) (by decide) rfl lmX12_582 inX12_push seX12_push rfl (Nat.le_of_ble_eq_true rfl) (Nat.le_of_ble_eq_true rfl) (Nat.le_refl _) (Nat.le_refl _) dX12_step_245 (q_L.deep (by decide) (kX12_push (Q := fun r S' => r = none ∧ S' = r20) w e21 ⟨rfl, rfl⟩)) (q_kV ?_)
    have fx22 : q_Fx S r20 := q_Fx.tr (q_Fx.rf S) (fxX12_push e21)
    refine q_goto 538 (by decide) dX12_step_248 ?_
    refine q_aload_n 2 rfl rfl dX12_step_538 ?_
    obtain ⟨r23, e24, h⟩ := q_bind h
    refine q_callV (ci := 12) (d := 5) (Mc := mX12_next) (kc := 0) (nc := 0) [] okX12_next (q_sh102 (w.fx fx22)) (by decide) rfl lmX12_600 inX12_next seX12_next rfl (Nat.le_of_ble_eq_true rfl) (Nat.le_of_ble_eq_true rfl) (Nat.le_refl _) (Nat.le_refl _) dX12_step_539 (q_L.deep (by decide) (kX12_next (Q := fun r S' => r = none ∧ S' = r23) (w.fx fx22) e24 ⟨rfl, rfl⟩)) (q_kV ?_)
    have fx25 : q_Fx S r23 := q_Fx.tr (fx22) (fxX12_next e24)
    obtain rfl := Option.some.inj h
    exact q_vret rfl dX12_step_542 hQ
  rw [if_neg c17] at h
  by_cases c26 : (S.2.1 (q + 15) x1.toNatClampNeg) = (3 : Int32)
  · rw [if_pos c26] at h
    refine q_tabIn (M := mX12_step) (pc := 21) (x := (S.2.1 (q + 15) x1.toNatClampNeg)) 251 (by rw [c26]; decide) (by rw [c26]; decide) (by rw [c26]; rfl) (by decide) dX12_step_21 ?_
    refine q_aload_n 2 rfl rfl dX12_step_251 ?_
    refine q_getR (q_sh102 w) (by decide) (by decide) rfl lfX12_64 dX12_step_252 (r := 172) (q_wr102_24 w) ?_
    refine q_aload_n 2 rfl rfl dX12_step_255 ?_
    refine q_getI (q_sh102 w) (by decide) (by decide) rfl lfX12_533 dX12_step_256 ?_
    refine q_iconst (v := (1 : Int32)) (by decide) dX12_step_259 ?_
    refine q_isub dX12_step_260 ?_
    refine q_bipush (v := (12 : Int32)) (by decide) dX12_step_261 ?_
    refine q_imul dX12_step_263 ?_
    refine q_iload_n 0 rfl rfl dX12_step_264 ?_
    refine q_iadd dX12_step_265 ?_
    refine q_aload_n 2 rfl rfl dX12_step_266 ?_
    obtain ⟨r27, e28, h⟩ := q_bind h
    refine q_callV (ci := 12) (d := 5) (Mc := mX12_pop) (kc := 0) (nc := 0) [] okX12_pop (q_sh102 w) (by decide) rfl lmX12_586 inX12_pop seX12_pop rfl (Nat.le_of_ble_eq_true rfl) (Nat.le_of_ble_eq_true rfl) (Nat.le_refl _) (Nat.le_refl _) dX12_step_267 (q_L.deep (by decide) (kX12_pop (Q := fun r S' => r = some (.long r27.1) ∧ S' = r27.2) w e28 ⟨rfl, rfl⟩)) (q_kJ ?_)
    have fx29 : q_Fx S r27.2 := q_Fx.tr (q_Fx.rf S) (fxX12_pop e28)
    obtain ⟨hg30, h⟩ := q_guard h
    refine q_last (q_sh172 (w.fx fx29)) (q_inb_in hg30) dX12_step_270 ?_
    obtain ⟨S31, e32, h⟩ := q_bindS h
    refine q_st e32 ?_
    have fx33 : q_Fx S S31 := e32 ▸ q_Fx.sJ (fx29)
    refine q_goto 538 (by decide) dX12_step_271 ?_
    refine q_aload_n 2 rfl rfl dX12_step_538 ?_
    obtain ⟨r34, e35, h⟩ := q_bind h
    refine q_callV (ci := 12) (d := 5) (Mc := mX12_next) (kc := 0) (nc := 0) [] okX12_next (q_sh102 (w.fx fx33)) (by decide) rfl lmX12_600 inX12_next seX12_next rfl (Nat.le_of_ble_eq_true rfl) (Nat.le_of_ble_eq_true rfl) (Nat.le_refl _) (Nat.le_refl _) dX12_step_539 (q_L.deep (by decide) (kX12_next (Q := fun r S' => r = none ∧ S' = r34) (w.fx fx33) e35 ⟨rfl, rfl⟩)) (q_kV ?_)
    have fx36 : q_Fx S r34 := q_Fx.tr (fx33) (fxX12_next e35)
    obtain rfl := Option.some.inj h
    exact q_vret rfl dX12_step_542 hQ
  rw [if_neg c26] at h
  by_cases c37 : (S.2.1 (q + 15) x1.toNatClampNeg) = (4 : Int32)
  · rw [if_pos c37] at h
    refine q_tabIn (M := mX12_step) (pc := 21) (x := (S.2.1 (q + 15) x1.toNatClampNeg)) 274 (by rw [c37]; decide) (by rw [c37]; decide) (by rw [c37]; rfl) (by decide) dX12_step_21 ?_
    refine q_aload_n 2 rfl rfl dX12_step_274 ?_
    refine q_getR (q_sh102 w) (by decide) (by decide) rfl lfX12_64 dX12_step_275 (r := 172) (q_wr102_24 w) ?_
    refine q_aload_n 2 rfl rfl dX12_step_278 ?_
    refine q_getI (q_sh102 w) (by decide) (by decide) rfl lfX12_533 dX12_step_279 ?_
    refine q_iconst (v := (1 : Int32)) (by decide) dX12_step_282 ?_
    refine q_isub dX12_step_283 ?_
    refine q_bipush (v := (12 : Int32)) (by decide) dX12_step_284 ?_
    refine q_imul dX12_step_286 ?_
    refine q_iload_n 0 rfl rfl dX12_step_287 ?_
    refine q_iadd dX12_step_288 ?_
    refine q_aload_n 2 rfl rfl dX12_step_289 ?_
    refine q_iload_n 0 rfl rfl dX12_step_290 ?_
    obtain ⟨r38, e39, h⟩ := q_bind h
    refine q_callV (ci := 12) (d := 5) (Mc := mX12_local) (kc := 0) (nc := 0) [.int (S.2.1 (q + 16) x1.toNatClampNeg)] okX12_local (q_sh102 w) (by decide) rfl lmX12_555 inX12_local seX12_local rfl (Nat.le_of_ble_eq_true rfl) (Nat.le_of_ble_eq_true rfl) (Nat.le_refl _) (Nat.le_refl _) dX12_step_291 (q_L.deep (by decide) (kX12_local (Q := fun r S' => r = some (.long r38) ∧ S' = S) w e39 ⟨rfl, rfl⟩)) (q_kJ ?_)
    refine q_l2i dX12_step_294 ?_
    refine q_aload_n 2 rfl rfl dX12_step_295 ?_
    refine q_getR (q_sh102 w) (by decide) (by decide) rfl lfX12_10 dX12_step_296 (r := q) (aM).1 ?_
    refine q_getR (q_shQ0 w hq) (by decide) (by decide) rfl lfX12_379 dX12_step_299 (r := (q + 17)) (q_wrQ0_23 w hq) ?_
    refine q_iload_n 3 rfl rfl dX12_step_302 ?_
    obtain ⟨hg40, h⟩ := q_guard h
    refine q_iald (q_shQ17 w hq) (q_inb_in hg40) dX12_step_303 ?_
    refine q_iadd dX12_step_304 ?_
    refine q_i2l dX12_step_305 ?_
    obtain ⟨hg41, h⟩ := q_guard h
    refine q_last (q_sh172 w) (q_inb_in hg41) dX12_step_306 ?_
    obtain ⟨S42, e43, h⟩ := q_bindS h
    refine q_st e43 ?_
    have fx44 : q_Fx S S42 := e43 ▸ q_Fx.sJ (q_Fx.rf S)
    refine q_goto 538 (by decide) dX12_step_307 ?_
    refine q_aload_n 2 rfl rfl dX12_step_538 ?_
    obtain ⟨r45, e46, h⟩ := q_bind h
    refine q_callV (ci := 12) (d := 5) (Mc := mX12_next) (kc := 0) (nc := 0) [] okX12_next (q_sh102 (w.fx fx44)) (by decide) rfl lmX12_600 inX12_next seX12_next rfl (Nat.le_of_ble_eq_true rfl) (Nat.le_of_ble_eq_true rfl) (Nat.le_refl _) (Nat.le_refl _) dX12_step_539 (q_L.deep (by decide) (kX12_next (Q := fun r S' => r = none ∧ S' = r45) (w.fx fx44) e46 ⟨rfl, rfl⟩)) (q_kV ?_)
    have fx47 : q_Fx S r45 := q_Fx.tr (fx44) (fxX12_next e46)
    obtain rfl := Option.some.inj h
    exact q_vret rfl dX12_step_542 hQ
  rw [if_neg c37] at h
  by_cases c48 : (S.2.1 (q + 15) x1.toNatClampNeg) = (5 : Int32)
  · rw [if_pos c48] at h
    refine q_tabIn (M := mX12_step) (pc := 21) (x := (S.2.1 (q + 15) x1.toNatClampNeg)) 310 (by rw [c48]; decide) (by rw [c48]; decide) (by rw [c48]; rfl) (by decide) dX12_step_21 ?_
    refine q_aload_n 2 rfl rfl dX12_step_310 ?_
    obtain ⟨r49, e50, h⟩ := q_bind h
    refine q_callV (ci := 12) (d := 5) (Mc := mX12_pop) (kc := 0) (nc := 0) [] okX12_pop (q_sh102 w) (by decide) rfl lmX12_586 inX12_pop seX12_pop rfl (Nat.le_of_ble_eq_true rfl) (Nat.le_of_ble_eq_true rfl) (Nat.le_refl _) (Nat.le_refl _) dX12_step_311 (q_L.deep (by decide) (kX12_pop (Q := fun r S' => r = some (.long r49.1) ∧ S' = r49.2) w e50 ⟨rfl, rfl⟩)) (q_kJ ?_)
    have fx51 : q_Fx S r49.2 := q_Fx.tr (q_Fx.rf S) (fxX12_pop e50)
    refine q_lstore [(4, .long r49.1), (3, .int (S.2.1 (q + 16) x1.toNatClampNeg)), (2, .int (S.2.1 (q + 15) x1.toNatClampNeg)), (0, .ref 102), (1, .int x1)] (by decide) rfl dX12_step_314 ?_
    refine q_aload_n 3 rfl rfl dX12_step_316 ?_
    refine q_lload 0 rfl dX12_step_317 ?_
    obtain ⟨r52, e53, h⟩ := q_bind h
    refine q_callV (ci := 12) (d := 5) (Mc := mX12_push) (kc := 0) (nc := 0) [.long r49.1] okX12_push (q_sh102 (w.fx fx51)) (by decide) rfl lmX12_582 inX12_push seX12_push rfl (Nat.le_of_ble_eq_true rfl) (Nat.le_of_ble_eq_true rfl) (Nat.le_refl _) (Nat.le_refl _) dX12_step_319 (q_L.deep (by decide) (kX12_push (Q := fun r S' => r = none ∧ S' = r52) (w.fx fx51) e53 ⟨rfl, rfl⟩)) (q_kV ?_)
    have fx54 : q_Fx S r52 := q_Fx.tr (fx51) (fxX12_push e53)
    refine q_aload_n 3 rfl rfl dX12_step_322 ?_
    refine q_lload 0 rfl dX12_step_323 ?_
    obtain ⟨r55, e56, h⟩ := q_bind h
    refine q_callV (ci := 12) (d := 5) (Mc := mX12_push) (kc := 0) (nc := 0) [.long r49.1] okX12_push (q_sh102 (w.fx fx54)) (by decide) rfl lmX12_582 inX12_push seX12_push rfl (Nat.le_of_ble_eq_true rfl) (Nat.le_of_ble_eq_true rfl) (Nat.le_refl _) (Nat.le_refl _) dX12_step_325 (q_L.deep (by decide) (kX12_push (Q := fun r S' => r = none ∧ S' = r55) (w.fx fx54) e56 ⟨rfl, rfl⟩)) (q_kV ?_)
    have fx57 : q_Fx S r55 := q_Fx.tr (fx54) (fxX12_push e56)
    refine q_goto 538 (by decide) dX12_step_328 ?_
    refine q_aload_n 3 rfl rfl dX12_step_538 ?_
    obtain ⟨r58, e59, h⟩ := q_bind h
    refine q_callV (ci := 12) (d := 5) (Mc := mX12_next) (kc := 0) (nc := 0) [] okX12_next (q_sh102 (w.fx fx57)) (by decide) rfl lmX12_600 inX12_next seX12_next rfl (Nat.le_of_ble_eq_true rfl) (Nat.le_of_ble_eq_true rfl) (Nat.le_refl _) (Nat.le_refl _) dX12_step_539 (q_L.deep (by decide) (kX12_next (Q := fun r S' => r = none ∧ S' = r58) (w.fx fx57) e59 ⟨rfl, rfl⟩)) (q_kV ?_)
    have fx60 : q_Fx S r58 := q_Fx.tr (fx57) (fxX12_next e59)
    obtain rfl := Option.some.inj h
    exact q_vret rfl dX12_step_542 hQ
  rw [if_neg c48] at h
  by_cases c61 : (S.2.1 (q + 15) x1.toNatClampNeg) = (6 : Int32)
  · rw [if_pos c61] at h
    refine q_tabIn (M := mX12_step) (pc := 21) (x := (S.2.1 (q + 15) x1.toNatClampNeg)) 331 (by rw [c61]; decide) (by rw [c61]; decide) (by rw [c61]; rfl) (by decide) dX12_step_21 ?_
    refine q_aload_n 2 rfl rfl dX12_step_331 ?_
    obtain ⟨r62, e63, h⟩ := q_bind h
    refine q_callV (ci := 12) (d := 5) (Mc := mX12_pop) (kc := 0) (nc := 0) [] okX12_pop (q_sh102 w) (by decide) rfl lmX12_586 inX12_pop seX12_pop rfl (Nat.le_of_ble_eq_true rfl) (Nat.le_of_ble_eq_true rfl) (Nat.le_refl _) (Nat.le_refl _) dX12_step_332 (q_L.deep (by decide) (kX12_pop (Q := fun r S' => r = some (.long r62.1) ∧ S' = r62.2) w e63 ⟨rfl, rfl⟩)) (q_kJ ?_)
    have fx64 : q_Fx S r62.2 := q_Fx.tr (q_Fx.rf S) (fxX12_pop e63)
    refine q_lstore [(6, .long r62.1), (3, .int (S.2.1 (q + 16) x1.toNatClampNeg)), (2, .int (S.2.1 (q + 15) x1.toNatClampNeg)), (0, .ref 102), (1, .int x1)] (by decide) rfl dX12_step_335 ?_
    refine q_goto 538 (by decide) dX12_step_337 ?_
    refine q_aload_n 3 rfl rfl dX12_step_538 ?_
    obtain ⟨r65, e66, h⟩ := q_bind h
    refine q_callV (ci := 12) (d := 5) (Mc := mX12_next) (kc := 0) (nc := 0) [] okX12_next (q_sh102 (w.fx fx64)) (by decide) rfl lmX12_600 inX12_next seX12_next rfl (Nat.le_of_ble_eq_true rfl) (Nat.le_of_ble_eq_true rfl) (Nat.le_refl _) (Nat.le_refl _) dX12_step_539 (q_L.deep (by decide) (kX12_next (Q := fun r S' => r = none ∧ S' = r65) (w.fx fx64) e66 ⟨rfl, rfl⟩)) (q_kV ?_)
    have fx67 : q_Fx S r65 := q_Fx.tr (fx64) (fxX12_next e66)
    obtain rfl := Option.some.inj h
    exact q_vret rfl dX12_step_542 hQ
  rw [if_neg c61] at h
  by_cases c68 : (S.2.1 (q + 15) x1.toNatClampNeg) = (7 : Int32)
  · rw [if_pos c68] at h
    refine q_tabIn (M := mX12_step) (pc := 21) (x := (S.2.1 (q + 15) x1.toNatClampNeg)) 340 (by rw [c68]; decide) (by rw [c68]; decide) (by rw [c68]; rfl) (by decide) dX12_step_21 ?_
    refine q_aload_n 2 rfl rfl dX12_step_340 ?_
    obtain ⟨r69, e70, h⟩ := q_bind h
    refine q_callV (ci := 12) (d := 5) (Mc := mX12_pop) (kc := 0) (nc := 0) [] okX12_pop (q_sh102 w) (by decide) rfl lmX12_586 inX12_pop seX12_pop rfl (Nat.le_of_ble_eq_true rfl) (Nat.le_of_ble_eq_true rfl) (Nat.le_refl _) (Nat.le_refl _) dX12_step_341 (q_L.deep (by decide) (kX12_pop (Q := fun r S' => r = some (.long r69.1) ∧ S' = r69.2) w e70 ⟨rfl, rfl⟩)) (q_kJ ?_)
    have fx71 : q_Fx S r69.2 := q_Fx.tr (q_Fx.rf S) (fxX12_pop e70)
    refine q_lstore [(8, .long r69.1), (3, .int (S.2.1 (q + 16) x1.toNatClampNeg)), (2, .int (S.2.1 (q + 15) x1.toNatClampNeg)), (0, .ref 102), (1, .int x1)] (by decide) rfl dX12_step_344 ?_
    refine q_aload_n 3 rfl rfl dX12_step_346 ?_
    obtain ⟨r72, e73, h⟩ := q_bind h
    refine q_callV (ci := 12) (d := 5) (Mc := mX12_pop) (kc := 0) (nc := 0) [] okX12_pop (q_sh102 (w.fx fx71)) (by decide) rfl lmX12_586 inX12_pop seX12_pop rfl (Nat.le_of_ble_eq_true rfl) (Nat.le_of_ble_eq_true rfl) (Nat.le_refl _) (Nat.le_refl _) dX12_step_347 (q_L.deep (by decide) (kX12_pop (Q := fun r S' => r = some (.long r72.1) ∧ S' = r72.2) (w.fx fx71) e73 ⟨rfl, rfl⟩)) (q_kJ ?_)
    have fx74 : q_Fx S r72.2 := q_Fx.tr (fx71) (fxX12_pop e73)
    refine q_lstore [(10, .long r72.1), (8, .long r69.1), (3, .int (S.2.1 (q + 16) x1.toNatClampNeg)), (2, .int (S.2.1 (q + 15) x1.toNatClampNeg)), (0, .ref 102), (1, .int x1)] (by decide) rfl dX12_step_350 ?_
    refine q_aload_n 4 rfl rfl dX12_step_352 ?_
    refine q_lload 1 rfl dX12_step_353 ?_
    obtain ⟨r75, e76, h⟩ := q_bind h
    refine q_callV (ci := 12) (d := 5) (Mc := mX12_push) (kc := 0) (nc := 0) [.long r69.1] okX12_push (q_sh102 (w.fx fx74)) (by decide) rfl lmX12_582 inX12_push seX12_push rfl (Nat.le_of_ble_eq_true rfl) (Nat.le_of_ble_eq_true rfl) (Nat.le_refl _) (Nat.le_refl _) dX12_step_355 (q_L.deep (by decide) (kX12_push (Q := fun r S' => r = none ∧ S' = r75) (w.fx fx74) e76 ⟨rfl, rfl⟩)) (q_kV ?_)
    have fx77 : q_Fx S r75 := q_Fx.tr (fx74) (fxX12_push e76)
    refine q_aload_n 4 rfl rfl dX12_step_358 ?_
    refine q_lload 0 rfl dX12_step_359 ?_
    obtain ⟨r78, e79, h⟩ := q_bind h
    refine q_callV (ci := 12) (d := 5) (Mc := mX12_push) (kc := 0) (nc := 0) [.long r72.1] okX12_push (q_sh102 (w.fx fx77)) (by decide) rfl lmX12_582 inX12_push seX12_push rfl (Nat.le_of_ble_eq_true rfl) (Nat.le_of_ble_eq_true rfl) (Nat.le_refl _) (Nat.le_refl _) dX12_step_361 (q_L.deep (by decide) (kX12_push (Q := fun r S' => r = none ∧ S' = r78) (w.fx fx77) e79 ⟨rfl, rfl⟩)) (q_kV ?_)
    have fx80 : q_Fx S r78 := q_Fx.tr (fx77) (fxX12_push e79)
    refine q_goto 538 (by decide) dX12_step_364 ?_
    refine q_aload_n 4 rfl rfl dX12_step_538 ?_
    obtain ⟨r81, e82, h⟩ := q_bind h
    refine q_callV (ci := 12) (d := 5) (Mc := mX12_next) (kc := 0) (nc := 0) [] okX12_next (q_sh102 (w.fx fx80)) (by decide) rfl lmX12_600 inX12_next seX12_next rfl (Nat.le_of_ble_eq_true rfl) (Nat.le_of_ble_eq_true rfl) (Nat.le_refl _) (Nat.le_refl _) dX12_step_539 (q_L.deep (by decide) (kX12_next (Q := fun r S' => r = none ∧ S' = r81) (w.fx fx80) e82 ⟨rfl, rfl⟩)) (q_kV ?_)
    have fx83 : q_Fx S r81 := q_Fx.tr (fx80) (fxX12_next e82)
    obtain rfl := Option.some.inj h
    exact q_vret rfl dX12_step_542 hQ
  rw [if_neg c68] at h
  by_cases c84 : (S.2.1 (q + 15) x1.toNatClampNeg) = (18 : Int32)
  · rw [if_pos c84] at h
    refine q_tabIn (M := mX12_step) (pc := 21) (x := (S.2.1 (q + 15) x1.toNatClampNeg)) 474 (by rw [c84]; decide) (by rw [c84]; decide) (by rw [c84]; rfl) (by decide) dX12_step_21 ?_
    refine q_aload_n 2 rfl rfl dX12_step_474 ?_
    refine q_aload_n 2 rfl rfl dX12_step_475 ?_
    obtain ⟨r85, e86, h⟩ := q_bind h
    refine q_callV (ci := 12) (d := 5) (Mc := mX12_pop) (kc := 0) (nc := 0) [] okX12_pop (q_sh102 w) (by decide) rfl lmX12_586 inX12_pop seX12_pop rfl (Nat.le_of_ble_eq_true rfl) (Nat.le_of_ble_eq_true rfl) (Nat.le_refl _) (Nat.le_refl _) dX12_step_476 (q_L.deep (by decide) (kX12_pop (Q := fun r S' => r = some (.long r85.1) ∧ S' = r85.2) w e86 ⟨rfl, rfl⟩)) (q_kJ ?_)
    have fx87 : q_Fx S r85.2 := q_Fx.tr (q_Fx.rf S) (fxX12_pop e86)
    refine q_l2i dX12_step_479 ?_
    refine q_ineg dX12_step_480 ?_
    refine q_i2l dX12_step_481 ?_
    obtain ⟨r88, e89, h⟩ := q_bind h
    refine q_callV (ci := 12) (d := 5) (Mc := mX12_push) (kc := 0) (nc := 0) [.long (-r85.1.toInt32).toInt64] okX12_push (q_sh102 (w.fx fx87)) (by decide) rfl lmX12_582 inX12_push seX12_push rfl (Nat.le_of_ble_eq_true rfl) (Nat.le_of_ble_eq_true rfl) (Nat.le_refl _) (Nat.le_refl _) dX12_step_482 (q_L.deep (by decide) (kX12_push (Q := fun r S' => r = none ∧ S' = r88) (w.fx fx87) e89 ⟨rfl, rfl⟩)) (q_kV ?_)
    have fx90 : q_Fx S r88 := q_Fx.tr (fx87) (fxX12_push e89)
    refine q_goto 538 (by decide) dX12_step_485 ?_
    refine q_aload_n 2 rfl rfl dX12_step_538 ?_
    obtain ⟨r91, e92, h⟩ := q_bind h
    refine q_callV (ci := 12) (d := 5) (Mc := mX12_next) (kc := 0) (nc := 0) [] okX12_next (q_sh102 (w.fx fx90)) (by decide) rfl lmX12_600 inX12_next seX12_next rfl (Nat.le_of_ble_eq_true rfl) (Nat.le_of_ble_eq_true rfl) (Nat.le_refl _) (Nat.le_refl _) dX12_step_539 (q_L.deep (by decide) (kX12_next (Q := fun r S' => r = none ∧ S' = r91) (w.fx fx90) e92 ⟨rfl, rfl⟩)) (q_kV ?_)
    have fx93 : q_Fx S r91 := q_Fx.tr (fx90) (fxX12_next e92)
    obtain rfl := Option.some.inj h
    exact q_vret rfl dX12_step_542 hQ
  rw [if_neg c84] at h
  by_cases c94 : (S.2.1 (q + 15) x1.toNatClampNeg) = (19 : Int32)
  · rw [if_pos c94] at h
    refine q_tabIn (M := mX12_step) (pc := 21) (x := (S.2.1 (q + 15) x1.toNatClampNeg)) 461 (by rw [c94]; decide) (by rw [c94]; decide) (by rw [c94]; rfl) (by decide) dX12_step_21 ?_
    refine q_aload_n 2 rfl rfl dX12_step_461 ?_
    refine q_getR (q_sh102 w) (by decide) (by decide) rfl lfX12_74 dX12_step_462 (r := 175) (q_wr102_27 w) ?_
    refine q_aload_n 2 rfl rfl dX12_step_465 ?_
    refine q_getI (q_sh102 w) (by decide) (by decide) rfl lfX12_533 dX12_step_466 ?_
    refine q_iconst (v := (1 : Int32)) (by decide) dX12_step_469 ?_
    refine q_isub dX12_step_470 ?_
    refine q_iload_n 0 rfl rfl dX12_step_471 ?_
    obtain ⟨hg95, h⟩ := q_guard h
    refine q_iast (q_sh175 w) (q_inb_in hg95) dX12_step_472 ?_
    obtain ⟨S96, e97, h⟩ := q_bindS h
    refine q_st e97 ?_
    have fx98 : q_Fx S S96 := e97 ▸ q_Fx.sI (q_Fx.rf S)
    obtain rfl := Option.some.inj h
    exact q_vret rfl dX12_step_473 hQ
  rw [if_neg c94] at h
  by_cases c99 : (S.2.1 (q + 15) x1.toNatClampNeg) = (44 : Int32)
  · rw [if_pos c99] at h
    refine q_tabIn (M := mX12_step) (pc := 21) (x := (S.2.1 (q + 15) x1.toNatClampNeg)) 367 (by rw [c99]; decide) (by rw [c99]; decide) (by rw [c99]; rfl) (by decide) dX12_step_21 ?_
    refine q_aload_n 2 rfl rfl dX12_step_367 ?_
    refine q_aload_n 2 rfl rfl dX12_step_368 ?_
    refine q_getI (q_sh102 w) (by decide) (by decide) rfl lfX12_524 dX12_step_369 ?_
    refine q_aload_n 2 rfl rfl dX12_step_372 ?_
    refine q_getI (q_sh102 w) (by decide) (by decide) rfl lfX12_515 dX12_step_373 ?_
    obtain ⟨v101, hv, h⟩ := q_bind h
    have K1 : q_L g mX12_step 6 0 0 Q 0 0 393 [(0, .ref 102)] [.long v101, .ref 102] S := by
      obtain ⟨r102, e103, h⟩ := q_bind h
      refine q_callV (ci := 12) (d := 5) (Mc := mX12_push) (kc := 0) (nc := 0) [.long v101] okX12_push (q_sh102 w) (by decide) rfl lmX12_582 inX12_push seX12_push rfl (Nat.le_of_ble_eq_true rfl) (Nat.le_of_ble_eq_true rfl) (Nat.le_refl _) (Nat.le_refl _) dX12_step_393 (q_L.deep (by decide) (kX12_push (Q := fun r S' => r = none ∧ S' = r102) w e103 ⟨rfl, rfl⟩)) (q_kV ?_)
      have fx104 : q_Fx S r102 := q_Fx.tr (q_Fx.rf S) (fxX12_push e103)
      refine q_aload_n 0 rfl rfl dX12_step_396 ?_
      refine q_getI (q_sh102 (w.fx fx104)) (by decide) (by decide) rfl lfX12_524 dX12_step_397 ?_
      refine q_aload_n 0 rfl rfl dX12_step_400 ?_
      refine q_getI (q_sh102 (w.fx fx104)) (by decide) (by decide) rfl lfX12_515 dX12_step_401 ?_
      refine q_icmp_ge 538 (by decide) dX12_step_404 (fun c => ?_) (fun c => ?_)
      · rw [if_pos c] at h
        refine q_aload_n 0 rfl rfl dX12_step_538 ?_
        obtain ⟨r105, e106, h⟩ := q_bind h
        refine q_callV (ci := 12) (d := 5) (Mc := mX12_next) (kc := 0) (nc := 0) [] okX12_next (q_sh102 (w.fx fx104)) (by decide) rfl lmX12_600 inX12_next seX12_next rfl (Nat.le_of_ble_eq_true rfl) (Nat.le_of_ble_eq_true rfl) (Nat.le_refl _) (Nat.le_refl _) dX12_step_539 (q_L.deep (by decide) (kX12_next (Q := fun r S' => r = none ∧ S' = r105) (w.fx fx104) e106 ⟨rfl, rfl⟩)) (q_kV ?_)
        have fx107 : q_Fx S r105 := q_Fx.tr (fx104) (fxX12_next e106)
        obtain rfl := Option.some.inj h
        exact q_vret rfl dX12_step_542 hQ
      · rw [if_neg c] at h
        refine q_aload_n 0 rfl rfl dX12_step_407 ?_
        refine q_dup rfl dX12_step_408 ?_
        refine q_getI (q_sh102 (w.fx fx104)) (by decide) (by decide) rfl lfX12_524 dX12_step_409 ?_
        refine q_iconst (v := (1 : Int32)) (by decide) dX12_step_412 ?_
        refine q_iadd dX12_step_413 ?_
        refine q_putI (q_sh102 (w.fx fx104)) (by decide) (by decide) rfl rfl ⟨rfl, rfl⟩ lfX12_524 dX12_step_414 ?_
        obtain ⟨S108, e109, h⟩ := q_bindS h
        refine q_st e109 ?_
        have fx110 : q_Fx S S108 := e109 ▸ q_Fx.sI (fx104)
        refine q_goto 538 (by decide) dX12_step_417 ?_
        refine q_aload_n 0 rfl rfl dX12_step_538 ?_
        obtain ⟨r111, e112, h⟩ := q_bind h
        refine q_callV (ci := 12) (d := 5) (Mc := mX12_next) (kc := 0) (nc := 0) [] okX12_next (q_sh102 (w.fx fx110)) (by decide) rfl lmX12_600 inX12_next seX12_next rfl (Nat.le_of_ble_eq_true rfl) (Nat.le_of_ble_eq_true rfl) (Nat.le_refl _) (Nat.le_refl _) dX12_step_539 (q_L.deep (by decide) (kX12_next (Q := fun r S' => r = none ∧ S' = r111) (w.fx fx110) e112 ⟨rfl, rfl⟩)) (q_kV ?_)
        have fx113 : q_Fx S r111 := q_Fx.tr (fx110) (fxX12_next e112)
        obtain rfl := Option.some.inj h
        exact q_vret rfl dX12_step_542 hQ
    replace h := hv
    refine q_icmp_ge 392 (by decide) dX12_step_376 (fun c => ?_) (fun c => ?_)
    · rw [if_pos c] at h
      refine q_lconst (v := (0 : Int64)) (by decide) dX12_step_392 ?_
      obtain rfl := Option.some.inj h
      refine q_sub [2] rfl ?_
      exact K1
    · rw [if_neg c] at h
      refine q_aload_n 2 rfl rfl dX12_step_379 ?_
      refine q_getR (q_sh102 w) (by decide) (by decide) rfl lfX12_92 dX12_step_380 (r := 181) (q_wr102_33 w) ?_
      refine q_aload_n 2 rfl rfl dX12_step_383 ?_
      refine q_getI (q_sh102 w) (by decide) (by decide) rfl lfX12_524 dX12_step_384 ?_
      obtain ⟨hg100, h⟩ := q_guard h
      refine q_iald (q_sh181 w) (q_inb_in hg100) dX12_step_387 ?_
      refine q_i2l dX12_step_388 ?_
      refine q_goto 393 (by decide) dX12_step_389 ?_
      obtain rfl := Option.some.inj h
      refine q_sub [2] rfl ?_
      exact K1
  rw [if_neg c99] at h
  by_cases c114 : (S.2.1 (q + 15) x1.toNatClampNeg) = (45 : Int32)
  · rw [if_pos c114] at h
    refine q_tabIn (M := mX12_step) (pc := 21) (x := (S.2.1 (q + 15) x1.toNatClampNeg)) 420 (by rw [c114]; decide) (by rw [c114]; decide) (by rw [c114]; rfl) (by decide) dX12_step_21 ?_
    refine q_aload_n 2 rfl rfl dX12_step_420 ?_
    obtain ⟨r115, e116, h⟩ := q_bind h
    refine q_callV (ci := 12) (d := 5) (Mc := mX12_pop) (kc := 0) (nc := 0) [] okX12_pop (q_sh102 w) (by decide) rfl lmX12_586 inX12_pop seX12_pop rfl (Nat.le_of_ble_eq_true rfl) (Nat.le_of_ble_eq_true rfl) (Nat.le_refl _) (Nat.le_refl _) dX12_step_421 (q_L.deep (by decide) (kX12_pop (Q := fun r S' => r = some (.long r115.1) ∧ S' = r115.2) w e116 ⟨rfl, rfl⟩)) (q_kJ ?_)
    have fx117 : q_Fx S r115.2 := q_Fx.tr (q_Fx.rf S) (fxX12_pop e116)
    refine q_l2i dX12_step_424 ?_
    refine q_istore [(12, .int r115.1.toInt32), (3, .int (S.2.1 (q + 16) x1.toNatClampNeg)), (2, .int (S.2.1 (q + 15) x1.toNatClampNeg)), (0, .ref 102), (1, .int x1)] (by decide) rfl dX12_step_425 ?_
    refine q_aload_n 3 rfl rfl dX12_step_427 ?_
    refine q_getI (q_sh102 (w.fx fx117)) (by decide) (by decide) rfl lfX12_527 dX12_step_428 ?_
    refine q_sipush (v := (256 : Int32)) (by decide) dX12_step_431 ?_
    obtain ⟨v122, hv, h⟩ := q_bind h
    have fx123 : q_Fx S v122 := by
      replace h := hv
      by_cases c : (256 : Int32) ≤ (r115.2.2.1 102 40)
      · rw [if_pos c] at h
        obtain rfl := Option.some.inj h
        exact fx117
      · rw [if_neg c] at h
        obtain ⟨hg118, h⟩ := q_guard h
        obtain ⟨S119, e120, h⟩ := q_bindS h
        have fx121 : q_Fx S S119 := e120 ▸ q_Fx.sI (fx117)
        obtain rfl := Option.some.inj h
        exact fx121
    have K2 : q_L g mX12_step 6 0 0 Q 0 0 448 [(0, .ref 102)] [] v122 := by
      refine q_aload_n 0 rfl rfl dX12_step_448 ?_
      refine q_dup rfl dX12_step_449 ?_
      refine q_getI (q_sh102 (w.fx fx123)) (by decide) (by decide) rfl lfX12_527 dX12_step_450 ?_
      refine q_iconst (v := (1 : Int32)) (by decide) dX12_step_453 ?_
      refine q_iadd dX12_step_454 ?_
      refine q_putI (q_sh102 (w.fx fx123)) (by decide) (by decide) rfl rfl ⟨rfl, rfl⟩ lfX12_527 dX12_step_455 ?_
      obtain ⟨S124, e125, h⟩ := q_bindS h
      refine q_st e125 ?_
      have fx126 : q_Fx S S124 := e125 ▸ q_Fx.sI (fx123)
      refine q_goto 538 (by decide) dX12_step_458 ?_
      refine q_aload_n 0 rfl rfl dX12_step_538 ?_
      obtain ⟨r127, e128, h⟩ := q_bind h
      refine q_callV (ci := 12) (d := 5) (Mc := mX12_next) (kc := 0) (nc := 0) [] okX12_next (q_sh102 (w.fx fx126)) (by decide) rfl lmX12_600 inX12_next seX12_next rfl (Nat.le_of_ble_eq_true rfl) (Nat.le_of_ble_eq_true rfl) (Nat.le_refl _) (Nat.le_refl _) dX12_step_539 (q_L.deep (by decide) (kX12_next (Q := fun r S' => r = none ∧ S' = r127) (w.fx fx126) e128 ⟨rfl, rfl⟩)) (q_kV ?_)
      have fx129 : q_Fx S r127 := q_Fx.tr (fx126) (fxX12_next e128)
      obtain rfl := Option.some.inj h
      exact q_vret rfl dX12_step_542 hQ
    replace h := hv
    refine q_icmp_ge 448 (by decide) dX12_step_434 (fun c => ?_) (fun c => ?_)
    · rw [if_pos c] at h
      obtain rfl := Option.some.inj h
      refine q_sub [3] rfl ?_
      exact K2
    · rw [if_neg c] at h
      refine q_aload_n 3 rfl rfl dX12_step_437 ?_
      refine q_getR (q_sh102 (w.fx fx117)) (by decide) (by decide) rfl lfX12_95 dX12_step_438 (r := 182) (q_wr102_34 (w.fx fx117)) ?_
      refine q_aload_n 3 rfl rfl dX12_step_441 ?_
      refine q_getI (q_sh102 (w.fx fx117)) (by decide) (by decide) rfl lfX12_527 dX12_step_442 ?_
      refine q_iload 0 rfl dX12_step_445 ?_
      obtain ⟨hg118, h⟩ := q_guard h
      refine q_iast (q_sh182 (w.fx fx117)) (q_inb_in hg118) dX12_step_447 ?_
      obtain ⟨S119, e120, h⟩ := q_bindS h
      refine q_st e120 ?_
      have fx121 : q_Fx S S119 := e120 ▸ q_Fx.sI (fx117)
      obtain rfl := Option.some.inj h
      refine q_sub [3] rfl ?_
      exact K2
  rw [if_neg c114] at h
  have K : ∀ (hK : True), q_L g mX12_step 6 0 0 Q 0 0 488 [(3, .int (S.2.1 (q + 16) x1.toNatClampNeg)), (2, .int (S.2.1 (q + 15) x1.toNatClampNeg)), (0, .ref 102), (1, .int x1)] [] S := by
    intro _
    refine q_iload_n 1 rfl rfl dX12_step_488 ?_
    refine q_bipush (v := (8 : Int32)) (by decide) dX12_step_489 ?_
    refine q_icmp_lt 509 (by decide) dX12_step_491 (fun c => ?_) (fun c => ?_)
    · rw [if_pos c] at h
      refine q_iload_n 1 rfl rfl dX12_step_509 ?_
      refine q_bipush (v := (20 : Int32)) (by decide) dX12_step_510 ?_
      refine q_icmp_lt 530 (by decide) dX12_step_512 (fun c => ?_) (fun c => ?_)
      · rw [if_pos c] at h
        refine q_aload_n 2 rfl rfl dX12_step_530 ?_
        refine q_iload_n 1 rfl rfl dX12_step_531 ?_
        refine q_iload_n 0 rfl rfl dX12_step_532 ?_
        refine q_iload_n 3 rfl rfl dX12_step_533 ?_
        obtain ⟨r130, e131, h⟩ := q_bind h
        refine q_callV (ci := 12) (d := 5) (Mc := mX12_objectStep) (kc := 0) (nc := 0) [.int (S.2.1 (q + 15) x1.toNatClampNeg), .int (S.2.1 (q + 16) x1.toNatClampNeg), .int x1] okX12_objectStep (q_sh102 w) (by decide) rfl lmX12_596 inX12_objectStep seX12_objectStep rfl (Nat.le_of_ble_eq_true rfl) (Nat.le_of_ble_eq_true rfl) (Nat.le_refl _) (Nat.le_refl _) dX12_step_534 (q_L.deep (by decide) (kX12_objectStep (Q := fun r S' => r = none ∧ S' = r130) w hq (aM) e131 ⟨rfl, rfl⟩)) (q_kV ?_)
        have fx132 : q_Fx S r130 := q_Fx.tr (q_Fx.rf S) (fxX12_objectStep e131)
        obtain rfl := Option.some.inj h
        exact q_vret rfl dX12_step_537 hQ
      · rw [if_neg c] at h
        refine q_iload_n 1 rfl rfl dX12_step_515 ?_
        refine q_bipush (v := (29 : Int32)) (by decide) dX12_step_516 ?_
        refine q_icmp_gt 530 (by decide) dX12_step_518 (fun c => ?_) (fun c => ?_)
        · rw [if_pos c] at h
          refine q_aload_n 2 rfl rfl dX12_step_530 ?_
          refine q_iload_n 1 rfl rfl dX12_step_531 ?_
          refine q_iload_n 0 rfl rfl dX12_step_532 ?_
          refine q_iload_n 3 rfl rfl dX12_step_533 ?_
          obtain ⟨r133, e134, h⟩ := q_bind h
          refine q_callV (ci := 12) (d := 5) (Mc := mX12_objectStep) (kc := 0) (nc := 0) [.int (S.2.1 (q + 15) x1.toNatClampNeg), .int (S.2.1 (q + 16) x1.toNatClampNeg), .int x1] okX12_objectStep (q_sh102 w) (by decide) rfl lmX12_596 inX12_objectStep seX12_objectStep rfl (Nat.le_of_ble_eq_true rfl) (Nat.le_of_ble_eq_true rfl) (Nat.le_refl _) (Nat.le_refl _) dX12_step_534 (q_L.deep (by decide) (kX12_objectStep (Q := fun r S' => r = none ∧ S' = r133) w hq (aM) e134 ⟨rfl, rfl⟩)) (q_kV ?_)
          have fx135 : q_Fx S r133 := q_Fx.tr (q_Fx.rf S) (fxX12_objectStep e134)
          obtain rfl := Option.some.inj h
          exact q_vret rfl dX12_step_537 hQ
        · rw [if_neg c] at h
          refine q_aload_n 2 rfl rfl dX12_step_521 ?_
          refine q_iload_n 1 rfl rfl dX12_step_522 ?_
          refine q_iload_n 0 rfl rfl dX12_step_523 ?_
          obtain ⟨r136, e137, h⟩ := q_bind h
          refine q_callV (ci := 12) (d := 5) (Mc := mX12_branch) (kc := 0) (nc := 0) [.int (S.2.1 (q + 15) x1.toNatClampNeg), .int (S.2.1 (q + 16) x1.toNatClampNeg)] okX12_branch (q_sh102 w) (by decide) rfl lmX12_593 inX12_branch seX12_branch rfl (Nat.le_of_ble_eq_true rfl) (Nat.le_of_ble_eq_true rfl) (Nat.le_refl _) (Nat.le_refl _) dX12_step_524 (q_L.deep (by decide) (kX12_branch (Q := fun r S' => r = none ∧ S' = r136) w e137 ⟨rfl, rfl⟩)) (q_kV ?_)
          have fx138 : q_Fx S r136 := q_Fx.tr (q_Fx.rf S) (fxX12_branch e137)
          refine q_goto 537 (by decide) dX12_step_527 ?_
          obtain rfl := Option.some.inj h
          exact q_vret rfl dX12_step_537 hQ
    · rw [if_neg c] at h
      refine q_iload_n 1 rfl rfl dX12_step_494 ?_
      refine q_bipush (v := (17 : Int32)) (by decide) dX12_step_495 ?_
      refine q_icmp_gt 509 (by decide) dX12_step_497 (fun c => ?_) (fun c => ?_)
      · rw [if_pos c] at h
        refine q_iload_n 1 rfl rfl dX12_step_509 ?_
        refine q_bipush (v := (20 : Int32)) (by decide) dX12_step_510 ?_
        refine q_icmp_lt 530 (by decide) dX12_step_512 (fun c => ?_) (fun c => ?_)
        · rw [if_pos c] at h
          refine q_aload_n 2 rfl rfl dX12_step_530 ?_
          refine q_iload_n 1 rfl rfl dX12_step_531 ?_
          refine q_iload_n 0 rfl rfl dX12_step_532 ?_
          refine q_iload_n 3 rfl rfl dX12_step_533 ?_
          obtain ⟨r139, e140, h⟩ := q_bind h
          refine q_callV (ci := 12) (d := 5) (Mc := mX12_objectStep) (kc := 0) (nc := 0) [.int (S.2.1 (q + 15) x1.toNatClampNeg), .int (S.2.1 (q + 16) x1.toNatClampNeg), .int x1] okX12_objectStep (q_sh102 w) (by decide) rfl lmX12_596 inX12_objectStep seX12_objectStep rfl (Nat.le_of_ble_eq_true rfl) (Nat.le_of_ble_eq_true rfl) (Nat.le_refl _) (Nat.le_refl _) dX12_step_534 (q_L.deep (by decide) (kX12_objectStep (Q := fun r S' => r = none ∧ S' = r139) w hq (aM) e140 ⟨rfl, rfl⟩)) (q_kV ?_)
          have fx141 : q_Fx S r139 := q_Fx.tr (q_Fx.rf S) (fxX12_objectStep e140)
          obtain rfl := Option.some.inj h
          exact q_vret rfl dX12_step_537 hQ
        · rw [if_neg c] at h
          refine q_iload_n 1 rfl rfl dX12_step_515 ?_
          refine q_bipush (v := (29 : Int32)) (by decide) dX12_step_516 ?_
          refine q_icmp_gt 530 (by decide) dX12_step_518 (fun c => ?_) (fun c => ?_)
          · rw [if_pos c] at h
            refine q_aload_n 2 rfl rfl dX12_step_530 ?_
            refine q_iload_n 1 rfl rfl dX12_step_531 ?_
            refine q_iload_n 0 rfl rfl dX12_step_532 ?_
            refine q_iload_n 3 rfl rfl dX12_step_533 ?_
            obtain ⟨r142, e143, h⟩ := q_bind h
            refine q_callV (ci := 12) (d := 5) (Mc := mX12_objectStep) (kc := 0) (nc := 0) [.int (S.2.1 (q + 15) x1.toNatClampNeg), .int (S.2.1 (q + 16) x1.toNatClampNeg), .int x1] okX12_objectStep (q_sh102 w) (by decide) rfl lmX12_596 inX12_objectStep seX12_objectStep rfl (Nat.le_of_ble_eq_true rfl) (Nat.le_of_ble_eq_true rfl) (Nat.le_refl _) (Nat.le_refl _) dX12_step_534 (q_L.deep (by decide) (kX12_objectStep (Q := fun r S' => r = none ∧ S' = r142) w hq (aM) e143 ⟨rfl, rfl⟩)) (q_kV ?_)
            have fx144 : q_Fx S r142 := q_Fx.tr (q_Fx.rf S) (fxX12_objectStep e143)
            obtain rfl := Option.some.inj h
            exact q_vret rfl dX12_step_537 hQ
          · rw [if_neg c] at h
            refine q_aload_n 2 rfl rfl dX12_step_521 ?_
            refine q_iload_n 1 rfl rfl dX12_step_522 ?_
            refine q_iload_n 0 rfl rfl dX12_step_523 ?_
            obtain ⟨r145, e146, h⟩ := q_bind h
            refine q_callV (ci := 12) (d := 5) (Mc := mX12_branch) (kc := 0) (nc := 0) [.int (S.2.1 (q + 15) x1.toNatClampNeg), .int (S.2.1 (q + 16) x1.toNatClampNeg)] okX12_branch (q_sh102 w) (by decide) rfl lmX12_593 inX12_branch seX12_branch rfl (Nat.le_of_ble_eq_true rfl) (Nat.le_of_ble_eq_true rfl) (Nat.le_refl _) (Nat.le_refl _) dX12_step_524 (q_L.deep (by decide) (kX12_branch (Q := fun r S' => r = none ∧ S' = r145) w e146 ⟨rfl, rfl⟩)) (q_kV ?_)
            have fx147 : q_Fx S r145 := q_Fx.tr (q_Fx.rf S) (fxX12_branch e146)
            refine q_goto 537 (by decide) dX12_step_527 ?_
            obtain rfl := Option.some.inj h
            exact q_vret rfl dX12_step_537 hQ
      · rw [if_neg c] at h
        refine q_aload_n 2 rfl rfl dX12_step_500 ?_
        refine q_iload_n 1 rfl rfl dX12_step_501 ?_
        refine q_iload_n 3 rfl rfl dX12_step_502 ?_
        obtain ⟨r148, e149, h⟩ := q_bind h
        refine q_callV (ci := 12) (d := 5) (Mc := mX12_reckon) (kc := 0) (nc := 0) [.int (S.2.1 (q + 15) x1.toNatClampNeg), .int x1] okX12_reckon (q_sh102 w) (by decide) rfl lmX12_590 inX12_reckon seX12_reckon rfl (Nat.le_of_ble_eq_true rfl) (Nat.le_of_ble_eq_true rfl) (Nat.le_refl _) (Nat.le_refl _) dX12_step_503 (q_L.deep (by decide) (kX12_reckon (Q := fun r S' => r = none ∧ S' = r148) w hq (aM) e149 ⟨rfl, rfl⟩)) (q_kV ?_)
        have fx150 : q_Fx S r148 := q_Fx.tr (q_Fx.rf S) (fxX12_reckon e149)
        refine q_goto 537 (by decide) dX12_step_506 ?_
        obtain rfl := Option.some.inj h
        exact q_vret rfl dX12_step_537 hQ
  by_cases n151 : (S.2.1 (q + 15) x1.toNatClampNeg) = (8 : Int32)
  · exact q_tabIn (M := mX12_step) (pc := 21) (x := (S.2.1 (q + 15) x1.toNatClampNeg)) 488 (by rw [n151]; decide) (by rw [n151]; decide) (by rw [n151]; rfl) (by decide) dX12_step_21 (K trivial)
  by_cases n152 : (S.2.1 (q + 15) x1.toNatClampNeg) = (9 : Int32)
  · exact q_tabIn (M := mX12_step) (pc := 21) (x := (S.2.1 (q + 15) x1.toNatClampNeg)) 488 (by rw [n152]; decide) (by rw [n152]; decide) (by rw [n152]; rfl) (by decide) dX12_step_21 (K trivial)
  by_cases n153 : (S.2.1 (q + 15) x1.toNatClampNeg) = (10 : Int32)
  · exact q_tabIn (M := mX12_step) (pc := 21) (x := (S.2.1 (q + 15) x1.toNatClampNeg)) 488 (by rw [n153]; decide) (by rw [n153]; decide) (by rw [n153]; rfl) (by decide) dX12_step_21 (K trivial)
  by_cases n154 : (S.2.1 (q + 15) x1.toNatClampNeg) = (11 : Int32)
  · exact q_tabIn (M := mX12_step) (pc := 21) (x := (S.2.1 (q + 15) x1.toNatClampNeg)) 488 (by rw [n154]; decide) (by rw [n154]; decide) (by rw [n154]; rfl) (by decide) dX12_step_21 (K trivial)
  by_cases n155 : (S.2.1 (q + 15) x1.toNatClampNeg) = (12 : Int32)
  · exact q_tabIn (M := mX12_step) (pc := 21) (x := (S.2.1 (q + 15) x1.toNatClampNeg)) 488 (by rw [n155]; decide) (by rw [n155]; decide) (by rw [n155]; rfl) (by decide) dX12_step_21 (K trivial)
  by_cases n156 : (S.2.1 (q + 15) x1.toNatClampNeg) = (13 : Int32)
  · exact q_tabIn (M := mX12_step) (pc := 21) (x := (S.2.1 (q + 15) x1.toNatClampNeg)) 488 (by rw [n156]; decide) (by rw [n156]; decide) (by rw [n156]; rfl) (by decide) dX12_step_21 (K trivial)
  by_cases n157 : (S.2.1 (q + 15) x1.toNatClampNeg) = (14 : Int32)
  · exact q_tabIn (M := mX12_step) (pc := 21) (x := (S.2.1 (q + 15) x1.toNatClampNeg)) 488 (by rw [n157]; decide) (by rw [n157]; decide) (by rw [n157]; rfl) (by decide) dX12_step_21 (K trivial)
  by_cases n158 : (S.2.1 (q + 15) x1.toNatClampNeg) = (15 : Int32)
  · exact q_tabIn (M := mX12_step) (pc := 21) (x := (S.2.1 (q + 15) x1.toNatClampNeg)) 488 (by rw [n158]; decide) (by rw [n158]; decide) (by rw [n158]; rfl) (by decide) dX12_step_21 (K trivial)
  by_cases n159 : (S.2.1 (q + 15) x1.toNatClampNeg) = (16 : Int32)
  · exact q_tabIn (M := mX12_step) (pc := 21) (x := (S.2.1 (q + 15) x1.toNatClampNeg)) 488 (by rw [n159]; decide) (by rw [n159]; decide) (by rw [n159]; rfl) (by decide) dX12_step_21 (K trivial)
  by_cases n160 : (S.2.1 (q + 15) x1.toNatClampNeg) = (17 : Int32)
  · exact q_tabIn (M := mX12_step) (pc := 21) (x := (S.2.1 (q + 15) x1.toNatClampNeg)) 488 (by rw [n160]; decide) (by rw [n160]; decide) (by rw [n160]; rfl) (by decide) dX12_step_21 (K trivial)
  by_cases n161 : (S.2.1 (q + 15) x1.toNatClampNeg) = (20 : Int32)
  · exact q_tabIn (M := mX12_step) (pc := 21) (x := (S.2.1 (q + 15) x1.toNatClampNeg)) 488 (by rw [n161]; decide) (by rw [n161]; decide) (by rw [n161]; rfl) (by decide) dX12_step_21 (K trivial)
  by_cases n162 : (S.2.1 (q + 15) x1.toNatClampNeg) = (21 : Int32)
  · exact q_tabIn (M := mX12_step) (pc := 21) (x := (S.2.1 (q + 15) x1.toNatClampNeg)) 488 (by rw [n162]; decide) (by rw [n162]; decide) (by rw [n162]; rfl) (by decide) dX12_step_21 (K trivial)
  by_cases n163 : (S.2.1 (q + 15) x1.toNatClampNeg) = (22 : Int32)
  · exact q_tabIn (M := mX12_step) (pc := 21) (x := (S.2.1 (q + 15) x1.toNatClampNeg)) 488 (by rw [n163]; decide) (by rw [n163]; decide) (by rw [n163]; rfl) (by decide) dX12_step_21 (K trivial)
  by_cases n164 : (S.2.1 (q + 15) x1.toNatClampNeg) = (23 : Int32)
  · exact q_tabIn (M := mX12_step) (pc := 21) (x := (S.2.1 (q + 15) x1.toNatClampNeg)) 488 (by rw [n164]; decide) (by rw [n164]; decide) (by rw [n164]; rfl) (by decide) dX12_step_21 (K trivial)
  by_cases n165 : (S.2.1 (q + 15) x1.toNatClampNeg) = (24 : Int32)
  · exact q_tabIn (M := mX12_step) (pc := 21) (x := (S.2.1 (q + 15) x1.toNatClampNeg)) 488 (by rw [n165]; decide) (by rw [n165]; decide) (by rw [n165]; rfl) (by decide) dX12_step_21 (K trivial)
  by_cases n166 : (S.2.1 (q + 15) x1.toNatClampNeg) = (25 : Int32)
  · exact q_tabIn (M := mX12_step) (pc := 21) (x := (S.2.1 (q + 15) x1.toNatClampNeg)) 488 (by rw [n166]; decide) (by rw [n166]; decide) (by rw [n166]; rfl) (by decide) dX12_step_21 (K trivial)
  by_cases n167 : (S.2.1 (q + 15) x1.toNatClampNeg) = (26 : Int32)
  · exact q_tabIn (M := mX12_step) (pc := 21) (x := (S.2.1 (q + 15) x1.toNatClampNeg)) 488 (by rw [n167]; decide) (by rw [n167]; decide) (by rw [n167]; rfl) (by decide) dX12_step_21 (K trivial)
  by_cases n168 : (S.2.1 (q + 15) x1.toNatClampNeg) = (27 : Int32)
  · exact q_tabIn (M := mX12_step) (pc := 21) (x := (S.2.1 (q + 15) x1.toNatClampNeg)) 488 (by rw [n168]; decide) (by rw [n168]; decide) (by rw [n168]; rfl) (by decide) dX12_step_21 (K trivial)
  by_cases n169 : (S.2.1 (q + 15) x1.toNatClampNeg) = (28 : Int32)
  · exact q_tabIn (M := mX12_step) (pc := 21) (x := (S.2.1 (q + 15) x1.toNatClampNeg)) 488 (by rw [n169]; decide) (by rw [n169]; decide) (by rw [n169]; rfl) (by decide) dX12_step_21 (K trivial)
  by_cases n170 : (S.2.1 (q + 15) x1.toNatClampNeg) = (29 : Int32)
  · exact q_tabIn (M := mX12_step) (pc := 21) (x := (S.2.1 (q + 15) x1.toNatClampNeg)) 488 (by rw [n170]; decide) (by rw [n170]; decide) (by rw [n170]; rfl) (by decide) dX12_step_21 (K trivial)
  by_cases n171 : (S.2.1 (q + 15) x1.toNatClampNeg) = (30 : Int32)
  · exact q_tabIn (M := mX12_step) (pc := 21) (x := (S.2.1 (q + 15) x1.toNatClampNeg)) 488 (by rw [n171]; decide) (by rw [n171]; decide) (by rw [n171]; rfl) (by decide) dX12_step_21 (K trivial)
  by_cases n172 : (S.2.1 (q + 15) x1.toNatClampNeg) = (31 : Int32)
  · exact q_tabIn (M := mX12_step) (pc := 21) (x := (S.2.1 (q + 15) x1.toNatClampNeg)) 488 (by rw [n172]; decide) (by rw [n172]; decide) (by rw [n172]; rfl) (by decide) dX12_step_21 (K trivial)
  by_cases n173 : (S.2.1 (q + 15) x1.toNatClampNeg) = (32 : Int32)
  · exact q_tabIn (M := mX12_step) (pc := 21) (x := (S.2.1 (q + 15) x1.toNatClampNeg)) 488 (by rw [n173]; decide) (by rw [n173]; decide) (by rw [n173]; rfl) (by decide) dX12_step_21 (K trivial)
  by_cases n174 : (S.2.1 (q + 15) x1.toNatClampNeg) = (33 : Int32)
  · exact q_tabIn (M := mX12_step) (pc := 21) (x := (S.2.1 (q + 15) x1.toNatClampNeg)) 488 (by rw [n174]; decide) (by rw [n174]; decide) (by rw [n174]; rfl) (by decide) dX12_step_21 (K trivial)
  by_cases n175 : (S.2.1 (q + 15) x1.toNatClampNeg) = (34 : Int32)
  · exact q_tabIn (M := mX12_step) (pc := 21) (x := (S.2.1 (q + 15) x1.toNatClampNeg)) 488 (by rw [n175]; decide) (by rw [n175]; decide) (by rw [n175]; rfl) (by decide) dX12_step_21 (K trivial)
  by_cases n176 : (S.2.1 (q + 15) x1.toNatClampNeg) = (35 : Int32)
  · exact q_tabIn (M := mX12_step) (pc := 21) (x := (S.2.1 (q + 15) x1.toNatClampNeg)) 488 (by rw [n176]; decide) (by rw [n176]; decide) (by rw [n176]; rfl) (by decide) dX12_step_21 (K trivial)
  by_cases n177 : (S.2.1 (q + 15) x1.toNatClampNeg) = (36 : Int32)
  · exact q_tabIn (M := mX12_step) (pc := 21) (x := (S.2.1 (q + 15) x1.toNatClampNeg)) 488 (by rw [n177]; decide) (by rw [n177]; decide) (by rw [n177]; rfl) (by decide) dX12_step_21 (K trivial)
  by_cases n178 : (S.2.1 (q + 15) x1.toNatClampNeg) = (37 : Int32)
  · exact q_tabIn (M := mX12_step) (pc := 21) (x := (S.2.1 (q + 15) x1.toNatClampNeg)) 488 (by rw [n178]; decide) (by rw [n178]; decide) (by rw [n178]; rfl) (by decide) dX12_step_21 (K trivial)
  by_cases n179 : (S.2.1 (q + 15) x1.toNatClampNeg) = (38 : Int32)
  · exact q_tabIn (M := mX12_step) (pc := 21) (x := (S.2.1 (q + 15) x1.toNatClampNeg)) 488 (by rw [n179]; decide) (by rw [n179]; decide) (by rw [n179]; rfl) (by decide) dX12_step_21 (K trivial)
  by_cases n180 : (S.2.1 (q + 15) x1.toNatClampNeg) = (39 : Int32)
  · exact q_tabIn (M := mX12_step) (pc := 21) (x := (S.2.1 (q + 15) x1.toNatClampNeg)) 488 (by rw [n180]; decide) (by rw [n180]; decide) (by rw [n180]; rfl) (by decide) dX12_step_21 (K trivial)
  by_cases n181 : (S.2.1 (q + 15) x1.toNatClampNeg) = (40 : Int32)
  · exact q_tabIn (M := mX12_step) (pc := 21) (x := (S.2.1 (q + 15) x1.toNatClampNeg)) 488 (by rw [n181]; decide) (by rw [n181]; decide) (by rw [n181]; rfl) (by decide) dX12_step_21 (K trivial)
  by_cases n182 : (S.2.1 (q + 15) x1.toNatClampNeg) = (41 : Int32)
  · exact q_tabIn (M := mX12_step) (pc := 21) (x := (S.2.1 (q + 15) x1.toNatClampNeg)) 488 (by rw [n182]; decide) (by rw [n182]; decide) (by rw [n182]; rfl) (by decide) dX12_step_21 (K trivial)
  by_cases n183 : (S.2.1 (q + 15) x1.toNatClampNeg) = (42 : Int32)
  · exact q_tabIn (M := mX12_step) (pc := 21) (x := (S.2.1 (q + 15) x1.toNatClampNeg)) 488 (by rw [n183]; decide) (by rw [n183]; decide) (by rw [n183]; rfl) (by decide) dX12_step_21 (K trivial)
  by_cases n184 : (S.2.1 (q + 15) x1.toNatClampNeg) = (43 : Int32)
  · exact q_tabIn (M := mX12_step) (pc := 21) (x := (S.2.1 (q + 15) x1.toNatClampNeg)) 488 (by rw [n184]; decide) (by rw [n184]; decide) (by rw [n184]; rfl) (by decide) dX12_step_21 (K trivial)
  exact q_tabOut (M := mX12_step) (pc := 21) (x := (S.2.1 (q + 15) x1.toNatClampNeg)) 488 (by have := lv_neT (a := 0) c3 (by decide); have := lv_neT (a := 1) c10 (by decide); have := lv_neT (a := 2) c17 (by decide); have := lv_neT (a := 3) c26 (by decide); have := lv_neT (a := 4) c37 (by decide); have := lv_neT (a := 5) c48 (by decide); have := lv_neT (a := 6) c61 (by decide); have := lv_neT (a := 7) c68 (by decide); have := lv_neT (a := 18) c84 (by decide); have := lv_neT (a := 19) c94 (by decide); have := lv_neT (a := 44) c99 (by decide); have := lv_neT (a := 45) c114 (by decide); have := lv_neT (a := 8) n151 (by decide); have := lv_neT (a := 9) n152 (by decide); have := lv_neT (a := 10) n153 (by decide); have := lv_neT (a := 11) n154 (by decide); have := lv_neT (a := 12) n155 (by decide); have := lv_neT (a := 13) n156 (by decide); have := lv_neT (a := 14) n157 (by decide); have := lv_neT (a := 15) n158 (by decide); have := lv_neT (a := 16) n159 (by decide); have := lv_neT (a := 17) n160 (by decide); have := lv_neT (a := 20) n161 (by decide); have := lv_neT (a := 21) n162 (by decide); have := lv_neT (a := 22) n163 (by decide); have := lv_neT (a := 23) n164 (by decide); have := lv_neT (a := 24) n165 (by decide); have := lv_neT (a := 25) n166 (by decide); have := lv_neT (a := 26) n167 (by decide); have := lv_neT (a := 27) n168 (by decide); have := lv_neT (a := 28) n169 (by decide); have := lv_neT (a := 29) n170 (by decide); have := lv_neT (a := 30) n171 (by decide); have := lv_neT (a := 31) n172 (by decide); have := lv_neT (a := 32) n173 (by decide); have := lv_neT (a := 33) n174 (by decide); have := lv_neT (a := 34) n175 (by decide); have := lv_neT (a := 35) n176 (by decide); have := lv_neT (a := 36) n177 (by decide); have := lv_neT (a := 37) n178 (by decide); have := lv_neT (a := 38) n179 (by decide); have := lv_neT (a := 39) n180 (by decide); have := lv_neT (a := 40) n181 (by decide); have := lv_neT (a := 41) n182 (by decide); have := lv_neT (a := 42) n183 (by decide); have := lv_neT (a := 43) n184 (by decide); omega) (by decide) dX12_step_21 (K trivial)
set_option maxRecDepth 20000 in
theorem sX12_run_71 {g : QG} {Q : Option Value → QS → Prop} {qs : Nat} {q : Nat} {y1 : Int32} {x : QS} {z : (Int32 × QS) ⊕ (QS)} (w : q_Wire x) (hq : q_qok q) (aM : q_aM x q qs) (h : tX12_run_71 q y1 x = some z) (hQ : (Sum.elim (fun r0 : Int32 × QS => Q (some (.int r0.1)) r0.2) (fun y : QS => q_L g mX12_run 7 0 0 Q 0 0 71 [(0, .ref 102), (1, .int y1)] [] y) z)) : q_L g mX12_run 7 0 0 Q 0 0 71 [(0, .ref 102), (1, .int y1)] [] x := by
  unfold tX12_run_71 at h
  refine q_aload_n 0 rfl rfl dX12_run_71 ?_
  refine q_getI (q_sh102 w) (by decide) (by decide) rfl lfX12_536 dX12_run_72 ?_
  refine q_if_ge 147 (by decide) dX12_run_75 (fun c => ?_) (fun c => ?_)
  · rw [if_pos c] at h
    refine q_aload_n 0 rfl rfl dX12_run_147 ?_
    refine q_iconst (v := (0 : Int32)) (by decide) dX12_run_148 ?_
    refine q_putI (q_sh102 w) (by decide) (by decide) rfl rfl ⟨rfl, rfl⟩ lfX12_515 dX12_run_149 ?_
    obtain ⟨S1, e2, h⟩ := q_bindS h
    refine q_st e2 ?_
    have fx3 : q_Fx x S1 := e2 ▸ q_Fx.sI (q_Fx.rf x)
    refine q_aload_n 0 rfl rfl dX12_run_152 ?_
    refine q_getI (q_sh102 (w.fx fx3)) (by decide) (by decide) rfl lfX12_536 dX12_run_153 ?_
    cases h
    exact q_iret rfl rfl dX12_run_156 hQ
  · rw [if_neg c] at h
    refine q_aload_n 0 rfl rfl dX12_run_78 ?_
    refine q_getR (q_sh102 w) (by decide) (by decide) rfl lfX12_74 dX12_run_79 (r := 175) (q_wr102_27 w) ?_
    refine q_aload_n 0 rfl rfl dX12_run_82 ?_
    refine q_getI (q_sh102 w) (by decide) (by decide) rfl lfX12_533 dX12_run_83 ?_
    refine q_iconst (v := (1 : Int32)) (by decide) dX12_run_86 ?_
    refine q_isub dX12_run_87 ?_
    obtain ⟨hg4, h⟩ := q_guard h
    refine q_iald (q_sh175 w) (q_inb_in hg4) dX12_run_88 ?_
    refine q_istore_n [(2, .int (x.2.1 175 ((x.2.1 102 35) - (1 : Int32)).toNatClampNeg)), (0, .ref 102), (1, .int y1)] rfl (by decide) rfl dX12_run_89 ?_
    refine q_aload_n 1 rfl rfl dX12_run_90 ?_
    refine q_getI (q_sh102 w) (by decide) (by decide) rfl lfX12_530 dX12_run_91 ?_
    refine q_iload_n 2 rfl rfl dX12_run_94 ?_
    refine q_icmp_ne 111 (by decide) dX12_run_95 (fun c => ?_) (fun c => ?_)
    · rw [if_neg c] at h
      refine q_aload_n 1 rfl rfl dX12_run_111 ?_
      refine q_dup rfl dX12_run_112 ?_
      refine q_getI (q_sh102 w) (by decide) (by decide) rfl lfX12_530 dX12_run_113 ?_
      refine q_iconst (v := (1 : Int32)) (by decide) dX12_run_116 ?_
      refine q_iadd dX12_run_117 ?_
      refine q_putI (q_sh102 w) (by decide) (by decide) rfl rfl ⟨rfl, rfl⟩ lfX12_530 dX12_run_118 ?_
      obtain ⟨S5, e6, h⟩ := q_bindS h
      refine q_st e6 ?_
      have fx7 : q_Fx x S5 := e6 ▸ q_Fx.sI (q_Fx.rf x)
      refine q_aload_n 1 rfl rfl dX12_run_121 ?_
      refine q_iload_n 0 rfl rfl dX12_run_122 ?_
      obtain ⟨r8, e9, h⟩ := q_bind h
      refine q_callV (ci := 12) (d := 6) (Mc := mX12_holds) (kc := 0) (nc := 0) [.int (x.2.1 175 ((x.2.1 102 35) - (1 : Int32)).toNatClampNeg)] okX12_holds (q_sh102 (w.fx fx7)) (by decide) rfl lmX12_542 inX12_holds seX12_holds rfl (Nat.le_of_ble_eq_true rfl) (Nat.le_of_ble_eq_true rfl) (Nat.le_refl _) (Nat.le_refl _) dX12_run_123 (q_L.deep (by decide) (kX12_holds (Q := fun r S' => r = some (.int (q_b r8)) ∧ S' = S5) (w.fx fx7) hq (aM.fx fx7) e9 ⟨rfl, rfl⟩)) (q_kI ?_)
      obtain ⟨v13, hv, h⟩ := q_bind h
      have fx14 : q_Fx x v13 := by
        replace h := hv
        by_cases c : r8 = true
        · rw [if_pos c] at h
          obtain rfl := Option.some.inj h
          exact fx7
        · rw [if_neg c] at h
          obtain ⟨S10, e11, h⟩ := q_bindS h
          have fx12 : q_Fx x S10 := e11 ▸ q_Fx.sI (fx7)
          obtain rfl := Option.some.inj h
          exact fx12
      have K1 : q_L g mX12_run 7 0 0 Q 0 0 139 [(0, .ref 102), (1, .int y1), (2, .int (x.2.1 175 ((x.2.1 102 35) - (1 : Int32)).toNatClampNeg))] [] v13 := by
        refine q_aload_n 0 rfl rfl dX12_run_139 ?_
        refine q_iload_n 2 rfl rfl dX12_run_140 ?_
        obtain ⟨r15, e16, h⟩ := q_bind h
        refine q_callV (ci := 12) (d := 6) (Mc := mX12_step) (kc := 0) (nc := 0) [.int (x.2.1 175 ((x.2.1 102 35) - (1 : Int32)).toNatClampNeg)] okX12_step (q_sh102 (w.fx fx14)) (by decide) rfl lmX12_548 inX12_step seX12_step rfl (Nat.le_of_ble_eq_true rfl) (Nat.le_of_ble_eq_true rfl) (Nat.le_refl _) (Nat.le_refl _) dX12_run_141 (q_L.deep (by decide) (kX12_step (Q := fun r S' => r = none ∧ S' = r15) (w.fx fx14) hq (aM.fx fx14) e16 ⟨rfl, rfl⟩)) (q_kV ?_)
        have fx17 : q_Fx x r15 := q_Fx.tr (fx14) (fxX12_step e16)
        refine q_goto 71 (by decide) dX12_run_144 ?_
        refine q_sub [0, 1] rfl ?_
        cases h
        exact hQ
      replace h := hv
      refine q_if_ne 139 (by decide) dX12_run_126 (fun c => ?_) (fun c => ?_)
      · have c := q_b_n.mp c; rw [q_if1 c] at h
        obtain rfl := Option.some.inj h
        refine q_sub [1, 2, 0] rfl ?_
        exact K1
      · have c := q_b_0.mp c; rw [q_if0 c] at h
        refine q_aload_n 1 rfl rfl dX12_run_129 ?_
        refine q_dup rfl dX12_run_130 ?_
        refine q_getI (q_sh102 (w.fx fx7)) (by decide) (by decide) rfl lfX12_545 dX12_run_131 ?_
        refine q_iconst (v := (1 : Int32)) (by decide) dX12_run_134 ?_
        refine q_iadd dX12_run_135 ?_
        refine q_putI (q_sh102 (w.fx fx7)) (by decide) (by decide) rfl rfl ⟨rfl, rfl⟩ lfX12_545 dX12_run_136 ?_
        obtain ⟨S10, e11, h⟩ := q_bindS h
        refine q_st e11 ?_
        have fx12 : q_Fx x S10 := e11 ▸ q_Fx.sI (fx7)
        obtain rfl := Option.some.inj h
        refine q_sub [1, 2, 0] rfl ?_
        exact K1
    · rw [if_pos c] at h
      refine q_aload_n 1 rfl rfl dX12_run_98 ?_
      refine q_iconst (v := (2 : Int32)) (by decide) dX12_run_99 ?_
      refine q_putI (q_sh102 w) (by decide) (by decide) rfl rfl ⟨rfl, rfl⟩ lfX12_536 dX12_run_100 ?_
      obtain ⟨S18, e19, h⟩ := q_bindS h
      refine q_st e19 ?_
      have fx20 : q_Fx x S18 := e19 ▸ q_Fx.sI (q_Fx.rf x)
      refine q_aload_n 1 rfl rfl dX12_run_103 ?_
      refine q_iload_n 0 rfl rfl dX12_run_104 ?_
      refine q_putI (q_sh102 (w.fx fx20)) (by decide) (by decide) rfl rfl ⟨rfl, rfl⟩ lfX12_98 dX12_run_105 ?_
      obtain ⟨S21, e22, h⟩ := q_bindS h
      refine q_st e22 ?_
      have fx23 : q_Fx x S21 := e22 ▸ q_Fx.sI (fx20)
      refine q_goto 144 (by decide) dX12_run_108 ?_
      refine q_goto 71 (by decide) dX12_run_144 ?_
      refine q_sub [1, 2] rfl ?_
      cases h
      exact hQ
theorem lX12_run_71 {g : QG} {Q : Option Value → QS → Prop} {qs : Nat} {q : Nat} {y1 : Int32} {r : Int32 × QS} (hq : q_qok q) (hQ : Q (some (.int r.1)) r.2) : ∀ (c : Nat) (x : QS), q_Wire x → q_aM x q qs → q_it (tX12_run_71 q y1) c x = some r → q_L g mX12_run 7 0 0 Q 0 0 71 [(0, .ref 102), (1, .int y1)] [] x := by
  intro c
  induction c with
  | zero => intro x w aM h; cases h
  | succ c ih =>
    intro x w aM h
    simp only [q_it] at h
    cases hz : tX12_run_71 q y1 x with
    | none => rw [hz] at h; cases h
    | some z =>
      rw [hz] at h
      refine sX12_run_71 w hq aM hz ?_
      rcases z with z | y
      · cases h; exact hQ
      · have fz := fxtX12_run_71 hz; exact ih y (w.fx fz) (aM.fx fz) h
theorem kX12_run_71 {S : QS} {g : QG} {Q : Option Value → QS → Prop} {qs : Nat} {q : Nat} {y1 : Int32} {r : Int32 × QS} (w : q_Wire S) (hq : q_qok q) (aM : q_aM S q qs) (h : fX12_run_71 S q y1 = some r) (hQ : Q (some (.int r.1)) r.2) : q_L g mX12_run 7 0 0 Q 0 0 71 [(0, .ref 102), (1, .int y1)] [] S := by
  obtain ⟨c, hc⟩ := q_run_it h
  exact lX12_run_71 hq hQ c S w aM hc
set_option maxRecDepth 20000 in
theorem kX12_run {S : QS} {g : QG} {Q : Option Value → QS → Prop} {qs : Nat} {q : Nat} {x1 : Int32} {r : Int32 × QS} (w : q_Wire S) (hq : q_qok q) (aM : q_aM S q qs) (h : fX12_run S q x1 = some r) (hQ : Q (some (.int r.1)) r.2) : q_M g mX12_run 7 0 0 [.ref 102, .int x1] S Q := by
  unfold fX12_run at h
  show q_L g mX12_run 7 0 0 Q 0 0 0 [(0, .ref 102), (1, .int x1)] [] S
  refine q_aload_n 0 rfl rfl dX12_run_0 ?_
  refine q_getI (q_sh102 w) (by decide) (by decide) rfl lfX12_511 dX12_run_1 ?_
  refine q_if_eq 18 (by decide) dX12_run_4 (fun c => ?_) (fun c => ?_)
  · rw [if_pos c] at h
    refine q_iconst (v := (-1 : Int32)) (by decide) dX12_run_18 ?_
    obtain rfl := Option.some.inj h
    exact q_iret rfl rfl dX12_run_19 hQ
  · rw [if_neg c] at h
    refine q_iload_n 1 rfl rfl dX12_run_7 ?_
    refine q_if_lt 18 (by decide) dX12_run_8 (fun c => ?_) (fun c => ?_)
    · rw [if_pos c] at h
      refine q_iconst (v := (-1 : Int32)) (by decide) dX12_run_18 ?_
      obtain rfl := Option.some.inj h
      exact q_iret rfl rfl dX12_run_19 hQ
    · rw [if_neg c] at h
      refine q_iload_n 1 rfl rfl dX12_run_11 ?_
      refine q_sipush (v := (20000 : Int32)) (by decide) dX12_run_12 ?_
      refine q_icmp_le 20 (by decide) dX12_run_15 (fun c => ?_) (fun c => ?_)
      · rw [if_pos c] at h
        refine q_aload_n 0 rfl rfl dX12_run_20 ?_
        refine q_iconst (v := (0 : Int32)) (by decide) dX12_run_21 ?_
        refine q_putI (q_sh102 w) (by decide) (by decide) rfl rfl ⟨rfl, rfl⟩ lfX12_518 dX12_run_22 ?_
        obtain ⟨S24, e25, h⟩ := q_bindS h
        refine q_st e25 ?_
        have fx26 : q_Fx S S24 := e25 ▸ q_Fx.sI (q_Fx.rf S)
        refine q_aload_n 0 rfl rfl dX12_run_25 ?_
        refine q_iconst (v := (0 : Int32)) (by decide) dX12_run_26 ?_
        refine q_putI (q_sh102 (w.fx fx26)) (by decide) (by decide) rfl rfl ⟨rfl, rfl⟩ lfX12_521 dX12_run_27 ?_
        obtain ⟨S27, e28, h⟩ := q_bindS h
        refine q_st e28 ?_
        have fx29 : q_Fx S S27 := e28 ▸ q_Fx.sI (fx26)
        refine q_aload_n 0 rfl rfl dX12_run_30 ?_
        refine q_iconst (v := (0 : Int32)) (by decide) dX12_run_31 ?_
        refine q_putI (q_sh102 (w.fx fx29)) (by decide) (by decide) rfl rfl ⟨rfl, rfl⟩ lfX12_524 dX12_run_32 ?_
        obtain ⟨S30, e31, h⟩ := q_bindS h
        refine q_st e31 ?_
        have fx32 : q_Fx S S30 := e31 ▸ q_Fx.sI (fx29)
        refine q_aload_n 0 rfl rfl dX12_run_35 ?_
        refine q_iconst (v := (0 : Int32)) (by decide) dX12_run_36 ?_
        refine q_putI (q_sh102 (w.fx fx32)) (by decide) (by decide) rfl rfl ⟨rfl, rfl⟩ lfX12_527 dX12_run_37 ?_
        obtain ⟨S33, e34, h⟩ := q_bindS h
        refine q_st e34 ?_
        have fx35 : q_Fx S S33 := e34 ▸ q_Fx.sI (fx32)
        refine q_aload_n 0 rfl rfl dX12_run_40 ?_
        refine q_iconst (v := (0 : Int32)) (by decide) dX12_run_41 ?_
        refine q_putI (q_sh102 (w.fx fx35)) (by decide) (by decide) rfl rfl ⟨rfl, rfl⟩ lfX12_530 dX12_run_42 ?_
        obtain ⟨S36, e37, h⟩ := q_bindS h
        refine q_st e37 ?_
        have fx38 : q_Fx S S36 := e37 ▸ q_Fx.sI (fx35)
        refine q_aload_n 0 rfl rfl dX12_run_45 ?_
        refine q_iconst (v := (-1 : Int32)) (by decide) dX12_run_46 ?_
        refine q_putI (q_sh102 (w.fx fx38)) (by decide) (by decide) rfl rfl ⟨rfl, rfl⟩ lfX12_101 dX12_run_47 ?_
        obtain ⟨S39, e40, h⟩ := q_bindS h
        refine q_st e40 ?_
        have fx41 : q_Fx S S39 := e40 ▸ q_Fx.sI (fx38)
        refine q_aload_n 0 rfl rfl dX12_run_50 ?_
        refine q_iconst (v := (0 : Int32)) (by decide) dX12_run_51 ?_
        refine q_putI (q_sh102 (w.fx fx41)) (by decide) (by decide) rfl rfl ⟨rfl, rfl⟩ lfX12_533 dX12_run_52 ?_
        obtain ⟨S42, e43, h⟩ := q_bindS h
        refine q_st e43 ?_
        have fx44 : q_Fx S S42 := e43 ▸ q_Fx.sI (fx41)
        refine q_aload_n 0 rfl rfl dX12_run_55 ?_
        refine q_iconst (v := (-1 : Int32)) (by decide) dX12_run_56 ?_
        refine q_putI (q_sh102 (w.fx fx44)) (by decide) (by decide) rfl rfl ⟨rfl, rfl⟩ lfX12_536 dX12_run_57 ?_
        obtain ⟨S45, e46, h⟩ := q_bindS h
        refine q_st e46 ?_
        have fx47 : q_Fx S S45 := e46 ▸ q_Fx.sI (fx44)
        refine q_aload_n 0 rfl rfl dX12_run_60 ?_
        refine q_aload_n 0 rfl rfl dX12_run_61 ?_
        refine q_getR (q_sh102 (w.fx fx47)) (by decide) (by decide) rfl lfX12_10 dX12_run_62 (r := q) (aM.fx fx47).1 ?_
        refine q_getI (q_shQ0 (w.fx fx47) hq) (by decide) (by decide) rfl lfX12_403 dX12_run_65 ?_
        obtain ⟨r48, e49, h⟩ := q_bind h
        refine q_callV (ci := 12) (d := 6) (Mc := mX12_enter) (kc := 0) (nc := 0) [.int (S45.2.1 q 6)] okX12_enter (q_sh102 (w.fx fx47)) (by decide) rfl lmX12_539 inX12_enter seX12_enter rfl (Nat.le_of_ble_eq_true rfl) (Nat.le_of_ble_eq_true rfl) (Nat.le_refl _) (Nat.le_refl _) dX12_run_68 (q_L.deep (by decide) (kX12_enter (Q := fun r S' => r = none ∧ S' = r48) (w.fx fx47) hq (aM.fx fx47) e49 ⟨rfl, rfl⟩)) (q_kV ?_)
        have fx50 : q_Fx S r48 := q_Fx.tr (fx47) (fxX12_enter e49)
        refine q_sub [0, 1] rfl ?_
        exact kX12_run_71 (w.fx fx50) hq (aM.fx fx50) h hQ
      · rw [if_neg c] at h
        refine q_iconst (v := (-1 : Int32)) (by decide) dX12_run_18 ?_
        obtain rfl := Option.some.inj h
        exact q_iret rfl rfl dX12_run_19 hQ
set_option maxRecDepth 20000 in
theorem kX12_steps {S : QS} {g : QG} {Q : Option Value → QS → Prop}   {r : Int32} (w : q_Wire S) (h : fX12_steps S = some r) (hQ : Q (some (.int r)) S) : q_M g mX12_steps 0 0 0 [.ref 102] S Q := by
  unfold fX12_steps at h
  show q_L g mX12_steps 0 0 0 Q 0 0 0 [(0, .ref 102)] [] S
  refine q_aload_n 0 rfl rfl dX12_steps_0 ?_
  refine q_getI (q_sh102 w) (by decide) (by decide) rfl lfX12_530 dX12_steps_1 ?_
  obtain rfl := Option.some.inj h
  exact q_iret rfl rfl dX12_steps_4 hQ
set_option maxRecDepth 20000 in
theorem kX12_place {S : QS} {g : QG} {Q : Option Value → QS → Prop}   {r : Int32} (w : q_Wire S) (h : fX12_place S = some r) (hQ : Q (some (.int r)) S) : q_M g mX12_place 0 0 0 [.ref 102] S Q := by
  unfold fX12_place at h
  show q_L g mX12_place 0 0 0 Q 0 0 0 [(0, .ref 102)] [] S
  refine q_aload_n 0 rfl rfl dX12_place_0 ?_
  refine q_getI (q_sh102 w) (by decide) (by decide) rfl lfX12_98 dX12_place_1 ?_
  obtain rfl := Option.some.inj h
  exact q_iret rfl rfl dX12_place_4 hQ
set_option maxRecDepth 20000 in
theorem kX12_thrown {S : QS} {g : QG} {Q : Option Value → QS → Prop}   {r : Int32} (w : q_Wire S) (h : fX12_thrown S = some r) (hQ : Q (some (.int r)) S) : q_M g mX12_thrown 0 0 0 [.ref 102] S Q := by
  unfold fX12_thrown at h
  show q_L g mX12_thrown 0 0 0 Q 0 0 0 [(0, .ref 102)] [] S
  refine q_aload_n 0 rfl rfl dX12_thrown_0 ?_
  refine q_getI (q_sh102 w) (by decide) (by decide) rfl lfX12_101 dX12_thrown_1 ?_
  obtain rfl := Option.some.inj h
  exact q_iret rfl rfl dX12_thrown_4 hQ
set_option maxRecDepth 20000 in
theorem kX12_made {S : QS} {g : QG} {Q : Option Value → QS → Prop}  {x1 : Int32} {r : Int32} (w : q_Wire S) (h : fX12_made S x1 = some r) (hQ : Q (some (.int r)) S) : q_M g mX12_made 0 0 0 [.ref 102, .int x1] S Q := by
  unfold fX12_made at h
  show q_L g mX12_made 0 0 0 Q 0 0 0 [(0, .ref 102), (1, .int x1)] [] S
  refine q_iload_n 1 rfl rfl dX12_made_0 ?_
  refine q_if_ne 11 (by decide) dX12_made_1 (fun c => ?_) (fun c => ?_)
  · rw [if_neg c] at h
    refine q_iload_n 1 rfl rfl dX12_made_11 ?_
    refine q_iconst (v := (1 : Int32)) (by decide) dX12_made_12 ?_
    refine q_icmp_ne 23 (by decide) dX12_made_13 (fun c => ?_) (fun c => ?_)
    · rw [if_neg c] at h
      refine q_iconst (v := (-1 : Int32)) (by decide) dX12_made_23 ?_
      obtain rfl := Option.some.inj h
      exact q_iret rfl rfl dX12_made_24 hQ
    · rw [if_pos c] at h
      refine q_aload_n 0 rfl rfl dX12_made_16 ?_
      refine q_getI (q_sh102 w) (by decide) (by decide) rfl lfX12_521 dX12_made_17 ?_
      refine q_goto 24 (by decide) dX12_made_20 ?_
      obtain rfl := Option.some.inj h
      exact q_iret rfl rfl dX12_made_24 hQ
  · rw [if_pos c] at h
    refine q_aload_n 0 rfl rfl dX12_made_4 ?_
    refine q_getI (q_sh102 w) (by decide) (by decide) rfl lfX12_518 dX12_made_5 ?_
    refine q_goto 24 (by decide) dX12_made_8 ?_
    obtain rfl := Option.some.inj h
    exact q_iret rfl rfl dX12_made_24 hQ
set_option maxRecDepth 20000 in
theorem kX12_written {S : QS} {g : QG} {Q : Option Value → QS → Prop}   {r : Int32} (w : q_Wire S) (h : fX12_written S = some r) (hQ : Q (some (.int r)) S) : q_M g mX12_written 0 0 0 [.ref 102] S Q := by
  unfold fX12_written at h
  show q_L g mX12_written 0 0 0 Q 0 0 0 [(0, .ref 102)] [] S
  refine q_aload_n 0 rfl rfl dX12_written_0 ?_
  refine q_getI (q_sh102 w) (by decide) (by decide) rfl lfX12_527 dX12_written_1 ?_
  obtain rfl := Option.some.inj h
  exact q_iret rfl rfl dX12_written_4 hQ
set_option maxRecDepth 20000 in
theorem kX12_out {S : QS} {g : QG} {Q : Option Value → QS → Prop}  {x1 : Int32} {r : Int32} (w : q_Wire S) (h : fX12_out S x1 = some r) (hQ : Q (some (.int r)) S) : q_M g mX12_out 0 0 0 [.ref 102, .int x1] S Q := by
  unfold fX12_out at h
  show q_L g mX12_out 0 0 0 Q 0 0 0 [(0, .ref 102), (1, .int x1)] [] S
  refine q_iload_n 1 rfl rfl dX12_out_0 ?_
  refine q_if_lt 28 (by decide) dX12_out_1 (fun c => ?_) (fun c => ?_)
  · rw [if_pos c] at h
    refine q_iconst (v := (0 : Int32)) (by decide) dX12_out_28 ?_
    obtain rfl := Option.some.inj h
    exact q_iret rfl rfl dX12_out_29 hQ
  · rw [if_neg c] at h
    refine q_iload_n 1 rfl rfl dX12_out_4 ?_
    refine q_aload_n 0 rfl rfl dX12_out_5 ?_
    refine q_getI (q_sh102 w) (by decide) (by decide) rfl lfX12_527 dX12_out_6 ?_
    refine q_icmp_ge 28 (by decide) dX12_out_9 (fun c => ?_) (fun c => ?_)
    · rw [if_pos c] at h
      refine q_iconst (v := (0 : Int32)) (by decide) dX12_out_28 ?_
      obtain rfl := Option.some.inj h
      exact q_iret rfl rfl dX12_out_29 hQ
    · rw [if_neg c] at h
      refine q_iload_n 1 rfl rfl dX12_out_12 ?_
      refine q_sipush (v := (256 : Int32)) (by decide) dX12_out_13 ?_
      refine q_icmp_ge 28 (by decide) dX12_out_16 (fun c => ?_) (fun c => ?_)
      · rw [if_pos c] at h
        refine q_iconst (v := (0 : Int32)) (by decide) dX12_out_28 ?_
        obtain rfl := Option.some.inj h
        exact q_iret rfl rfl dX12_out_29 hQ
      · rw [if_neg c] at h
        refine q_aload_n 0 rfl rfl dX12_out_19 ?_
        refine q_getR (q_sh102 w) (by decide) (by decide) rfl lfX12_95 dX12_out_20 (r := 182) (q_wr102_34 w) ?_
        refine q_iload_n 1 rfl rfl dX12_out_23 ?_
        obtain ⟨hg1, h⟩ := q_guard h
        refine q_iald (q_sh182 w) (q_inb_in hg1) dX12_out_24 ?_
        refine q_goto 29 (by decide) dX12_out_25 ?_
        obtain rfl := Option.some.inj h
        exact q_iret rfl rfl dX12_out_29 hQ
set_option maxRecDepth 20000 in
theorem kX12_strays {S : QS} {g : QG} {Q : Option Value → QS → Prop}   {r : Int32} (w : q_Wire S) (h : fX12_strays S = some r) (hQ : Q (some (.int r)) S) : q_M g mX12_strays 0 0 0 [.ref 102] S Q := by
  unfold fX12_strays at h
  show q_L g mX12_strays 0 0 0 Q 0 0 0 [(0, .ref 102)] [] S
  refine q_aload_n 0 rfl rfl dX12_strays_0 ?_
  refine q_getI (q_sh102 w) (by decide) (by decide) rfl lfX12_545 dX12_strays_1 ?_
  obtain rfl := Option.some.inj h
  exact q_iret rfl rfl dX12_strays_4 hQ
