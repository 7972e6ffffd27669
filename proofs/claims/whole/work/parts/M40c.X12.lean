set_option maxRecDepth 20000 in
theorem sX12_isMember_241 {g : QG} {Q : Option Value → QS → Prop}   {x : QS} {z : (Bool × QS) ⊕ (QS)} (w : q_Wire x) (h : tX12_isMember_241 x = some z) (hQ : (Sum.elim (fun r0 : Bool × QS => Q (some (.int (q_b r0.1))) r0.2) (fun y : QS => q_L g mX12_isMember 7 0 0 Q 0 0 241 [(0, .ref 102)] [] y) z)) : q_L g mX12_isMember 7 0 0 Q 0 0 241 [(0, .ref 102)] [] x := by
  unfold tX12_isMember_241 at h
  refine q_aload_n 0 rfl rfl dX12_isMember_241 ?_
  refine q_aload_n 0 rfl rfl dX12_isMember_242 ?_
  refine q_getI (q_sh102 w) (by decide) (by decide) rfl lfX12_158 dX12_isMember_243 ?_
  refine q_ldcS (j := 32) (r := 1000064) rfl rfl dX12_isMember_246 ?_
  obtain ⟨r1, e2, h⟩ := q_bind h
  refine q_callV (ci := 12) (d := 6) (Mc := mX12_is) (kc := 0) (nc := 0) [.int (x.2.1 102 11), .ref 1000064] okX12_is (q_sh102 w) (by decide) rfl lmX12_163 inX12_is seX12_is rfl (Nat.le_of_ble_eq_true rfl) (Nat.le_of_ble_eq_true rfl) (Nat.le_refl _) (Nat.le_refl _) dX12_isMember_248 (q_L.deep (by decide) (kX12_is (Q := fun r S' => r = some (.int (q_b r1)) ∧ S' = x) w e2 ⟨rfl, rfl⟩)) (q_kI ?_)
  refine q_if_ne 263 (by decide) dX12_isMember_251 (fun c => ?_) (fun c => ?_)
  · have c := q_b_n.mp c; rw [q_if1 c] at h
    refine q_aload_n 0 rfl rfl dX12_isMember_263 ?_
    refine q_dup rfl dX12_isMember_264 ?_
    refine q_getI (q_sh102 w) (by decide) (by decide) rfl lfX12_158 dX12_isMember_265 ?_
    refine q_iconst (v := (1 : Int32)) (by decide) dX12_isMember_268 ?_
    refine q_iadd dX12_isMember_269 ?_
    refine q_putI (q_sh102 w) (by decide) (by decide) rfl rfl ⟨rfl, rfl⟩ lfX12_158 dX12_isMember_270 ?_
    obtain ⟨S3, e4, h⟩ := q_bindS h
    refine q_st e4 ?_
    have fx5 : q_Fx x S3 := e4 ▸ q_Fx.sI (q_Fx.rf x)
    refine q_iconst (v := (1 : Int32)) (by decide) dX12_isMember_273 ?_
    cases h
    exact q_iret rfl (by decide) dX12_isMember_274 hQ
  · have c := q_b_0.mp c; rw [q_if0 c] at h
    refine q_aload_n 0 rfl rfl dX12_isMember_254 ?_
    obtain ⟨r6, e7, h⟩ := q_bind h
    refine q_callV (ci := 12) (d := 6) (Mc := mX12_isLine) (kc := 0) (nc := 0) [] okX12_isLine (q_sh102 w) (by decide) rfl lmX12_205 inX12_isLine seX12_isLine rfl (Nat.le_of_ble_eq_true rfl) (Nat.le_of_ble_eq_true rfl) (Nat.le_refl _) (Nat.le_refl _) dX12_isMember_255 (q_L.deep (by decide) (kX12_isLine (Q := fun r S' => r = some (.int (q_b r6.1)) ∧ S' = r6.2) w e7 ⟨rfl, rfl⟩)) (q_kI ?_)
    have fx8 : q_Fx x r6.2 := q_Fx.tr (q_Fx.rf x) (fxX12_isLine e7)
    refine q_if_ne 241 (by decide) dX12_isMember_258 (fun c => ?_) (fun c => ?_)
    · have c := q_b_n.mp c; rw [q_if1 c] at h
      refine q_sub [0] rfl ?_
      cases h
      exact hQ
    · have c := q_b_0.mp c; rw [q_if0 c] at h
      refine q_iconst (v := (0 : Int32)) (by decide) dX12_isMember_261 ?_
      cases h
      exact q_iret rfl (by decide) dX12_isMember_262 hQ
theorem lX12_isMember_241 {g : QG} {Q : Option Value → QS → Prop}   {r : Bool × QS}  (hQ : Q (some (.int (q_b r.1))) r.2) : ∀ (c : Nat) (x : QS), q_Wire x → q_it (tX12_isMember_241) c x = some r → q_L g mX12_isMember 7 0 0 Q 0 0 241 [(0, .ref 102)] [] x := by
  intro c
  induction c with
  | zero => intro x w h; cases h
  | succ c ih =>
    intro x w h
    simp only [q_it] at h
    cases hz : tX12_isMember_241 x with
    | none => rw [hz] at h; cases h
    | some z =>
      rw [hz] at h
      refine sX12_isMember_241 w hz ?_
      rcases z with z | y
      · cases h; exact hQ
      · have fz := fxtX12_isMember_241 hz; exact ih y (w.fx fz) h
theorem kX12_isMember_241 {S : QS} {g : QG} {Q : Option Value → QS → Prop}   {r : Bool × QS} (w : q_Wire S) (h : fX12_isMember_241 S = some r) (hQ : Q (some (.int (q_b r.1))) r.2) : q_L g mX12_isMember 7 0 0 Q 0 0 241 [(0, .ref 102)] [] S := by
  obtain ⟨c, hc⟩ := q_run_it h
  exact lX12_isMember_241  hQ c S w hc
set_option maxRecDepth 20000 in
theorem sX12_isMember_131 {g : QG} {Q : Option Value → QS → Prop}   {x : QS} {z : (Bool × QS) ⊕ (QS)} (w : q_Wire x) (h : tX12_isMember_131 x = some z) (hQ : (Sum.elim (fun r0 : Bool × QS => Q (some (.int (q_b r0.1))) r0.2) (fun y : QS => q_L g mX12_isMember 7 0 0 Q 0 0 131 [(0, .ref 102)] [] y) z)) : q_L g mX12_isMember 7 0 0 Q 0 0 131 [(0, .ref 102)] [] x := by
  unfold tX12_isMember_131 at h
  refine q_aload_n 0 rfl rfl dX12_isMember_131 ?_
  refine q_aload_n 0 rfl rfl dX12_isMember_132 ?_
  refine q_getI (q_sh102 w) (by decide) (by decide) rfl lfX12_158 dX12_isMember_133 ?_
  refine q_ldcS (j := 37) (r := 1000074) rfl rfl dX12_isMember_136 ?_
  obtain ⟨r9, e10, h⟩ := q_bind h
  refine q_callV (ci := 12) (d := 6) (Mc := mX12_is) (kc := 0) (nc := 0) [.int (x.2.1 102 11), .ref 1000074] okX12_is (q_sh102 w) (by decide) rfl lmX12_163 inX12_is seX12_is rfl (Nat.le_of_ble_eq_true rfl) (Nat.le_of_ble_eq_true rfl) (Nat.le_refl _) (Nat.le_refl _) dX12_isMember_138 (q_L.deep (by decide) (kX12_is (Q := fun r S' => r = some (.int (q_b r9)) ∧ S' = x) w e10 ⟨rfl, rfl⟩)) (q_kI ?_)
  refine q_if_ne 161 (by decide) dX12_isMember_141 (fun c => ?_) (fun c => ?_)
  · have c := q_b_n.mp c; rw [q_if1 c] at h
    refine q_aload_n 0 rfl rfl dX12_isMember_161 ?_
    refine q_dup rfl dX12_isMember_162 ?_
    refine q_getI (q_sh102 w) (by decide) (by decide) rfl lfX12_158 dX12_isMember_163 ?_
    refine q_iconst (v := (1 : Int32)) (by decide) dX12_isMember_166 ?_
    refine q_iadd dX12_isMember_167 ?_
    refine q_putI (q_sh102 w) (by decide) (by decide) rfl rfl ⟨rfl, rfl⟩ lfX12_158 dX12_isMember_168 ?_
    obtain ⟨S11, e12, h⟩ := q_bindS h
    refine q_st e12 ?_
    have fx13 : q_Fx x S11 := e12 ▸ q_Fx.sI (q_Fx.rf x)
    refine q_aload_n 0 rfl rfl dX12_isMember_171 ?_
    refine q_aload_n 0 rfl rfl dX12_isMember_172 ?_
    refine q_aload_n 0 rfl rfl dX12_isMember_173 ?_
    refine q_getI (q_sh102 (w.fx fx13)) (by decide) (by decide) rfl lfX12_158 dX12_isMember_174 ?_
    refine q_ldcS (j := 38) (r := 1000076) rfl rfl dX12_isMember_177 ?_
    obtain ⟨r14, e15, h⟩ := q_bind h
    refine q_callV (ci := 12) (d := 6) (Mc := mX12_is) (kc := 0) (nc := 0) [.int (S11.2.1 102 11), .ref 1000076] okX12_is (q_sh102 (w.fx fx13)) (by decide) rfl lmX12_163 inX12_is seX12_is rfl (Nat.le_of_ble_eq_true rfl) (Nat.le_of_ble_eq_true rfl) (Nat.le_refl _) (Nat.le_refl _) dX12_isMember_179 (q_L.deep (by decide) (kX12_is (Q := fun r S' => r = some (.int (q_b r14)) ∧ S' = S11) (w.fx fx13) e15 ⟨rfl, rfl⟩)) (q_kI ?_)
    obtain ⟨v18, hv, h⟩ := q_bind h
    have K1 : q_L g mX12_isMember 7 0 0 Q 0 0 201 [(0, .ref 102)] [.int (q_b v18), .ref 102] S11 := by
      obtain ⟨r19, e20, h⟩ := q_bind h
      refine q_callV (ci := 12) (d := 6) (Mc := mX12_takes) (kc := 0) (nc := 0) [.int (q_b v18)] okX12_takes (q_sh102 (w.fx fx13)) (by decide) rfl lmX12_167 inX12_takes seX12_takes rfl (Nat.le_of_ble_eq_true rfl) (Nat.le_of_ble_eq_true rfl) (Nat.le_refl _) (Nat.le_refl _) dX12_isMember_201 (q_L.deep (by decide) (kX12_takes (Q := fun r S' => r = some (.int (q_b r19.1)) ∧ S' = r19.2) (w.fx fx13) e20 ⟨rfl, rfl⟩)) (q_kI ?_)
      have fx21 : q_Fx x r19.2 := q_Fx.tr (fx13) (fxX12_takes e20)
      refine q_if_eq 239 (by decide) dX12_isMember_204 (fun c => ?_) (fun c => ?_)
      · have c := q_b_0.mp c; rw [q_if0 c] at h
        refine q_iconst (v := (0 : Int32)) (by decide) dX12_isMember_239 ?_
        cases h
        exact q_iret rfl (by decide) dX12_isMember_240 hQ
      · have c := q_b_n.mp c; rw [q_if1 c] at h
        refine q_aload_n 0 rfl rfl dX12_isMember_207 ?_
        refine q_aload_n 0 rfl rfl dX12_isMember_208 ?_
        refine q_aload_n 0 rfl rfl dX12_isMember_209 ?_
        refine q_getI (q_sh102 (w.fx fx21)) (by decide) (by decide) rfl lfX12_158 dX12_isMember_210 ?_
        obtain ⟨r22, e23, h⟩ := q_bind h
        refine q_callV (ci := 12) (d := 6) (Mc := mX12_isNumber) (kc := 0) (nc := 0) [.int (r19.2.2.1 102 11)] okX12_isNumber (q_sh102 (w.fx fx21)) (by decide) rfl lmX12_202 inX12_isNumber seX12_isNumber rfl (Nat.le_of_ble_eq_true rfl) (Nat.le_of_ble_eq_true rfl) (Nat.le_refl _) (Nat.le_refl _) dX12_isMember_213 (q_L.deep (by decide) (kX12_isNumber (Q := fun r S' => r = some (.int (q_b r22)) ∧ S' = r19.2) (w.fx fx21) e23 ⟨rfl, rfl⟩)) (q_kI ?_)
        obtain ⟨r24, e25, h⟩ := q_bind h
        refine q_callV (ci := 12) (d := 6) (Mc := mX12_takes) (kc := 0) (nc := 0) [.int (q_b r22)] okX12_takes (q_sh102 (w.fx fx21)) (by decide) rfl lmX12_167 inX12_takes seX12_takes rfl (Nat.le_of_ble_eq_true rfl) (Nat.le_of_ble_eq_true rfl) (Nat.le_refl _) (Nat.le_refl _) dX12_isMember_216 (q_L.deep (by decide) (kX12_takes (Q := fun r S' => r = some (.int (q_b r24.1)) ∧ S' = r24.2) (w.fx fx21) e25 ⟨rfl, rfl⟩)) (q_kI ?_)
        have fx26 : q_Fx x r24.2 := q_Fx.tr (fx21) (fxX12_takes e25)
        refine q_if_eq 239 (by decide) dX12_isMember_219 (fun c => ?_) (fun c => ?_)
        · have c := q_b_0.mp c; rw [q_if0 c] at h
          refine q_iconst (v := (0 : Int32)) (by decide) dX12_isMember_239 ?_
          cases h
          exact q_iret rfl (by decide) dX12_isMember_240 hQ
        · have c := q_b_n.mp c; rw [q_if1 c] at h
          refine q_aload_n 0 rfl rfl dX12_isMember_222 ?_
          refine q_aload_n 0 rfl rfl dX12_isMember_223 ?_
          refine q_aload_n 0 rfl rfl dX12_isMember_224 ?_
          refine q_getI (q_sh102 (w.fx fx26)) (by decide) (by decide) rfl lfX12_158 dX12_isMember_225 ?_
          refine q_ldcS (j := 31) (r := 1000062) rfl rfl dX12_isMember_228 ?_
          obtain ⟨r27, e28, h⟩ := q_bind h
          refine q_callV (ci := 12) (d := 6) (Mc := mX12_is) (kc := 0) (nc := 0) [.int (r24.2.2.1 102 11), .ref 1000062] okX12_is (q_sh102 (w.fx fx26)) (by decide) rfl lmX12_163 inX12_is seX12_is rfl (Nat.le_of_ble_eq_true rfl) (Nat.le_of_ble_eq_true rfl) (Nat.le_refl _) (Nat.le_refl _) dX12_isMember_230 (q_L.deep (by decide) (kX12_is (Q := fun r S' => r = some (.int (q_b r27)) ∧ S' = r24.2) (w.fx fx26) e28 ⟨rfl, rfl⟩)) (q_kI ?_)
          obtain ⟨r29, e30, h⟩ := q_bind h
          refine q_callV (ci := 12) (d := 6) (Mc := mX12_takes) (kc := 0) (nc := 0) [.int (q_b r27)] okX12_takes (q_sh102 (w.fx fx26)) (by decide) rfl lmX12_167 inX12_takes seX12_takes rfl (Nat.le_of_ble_eq_true rfl) (Nat.le_of_ble_eq_true rfl) (Nat.le_refl _) (Nat.le_refl _) dX12_isMember_233 (q_L.deep (by decide) (kX12_takes (Q := fun r S' => r = some (.int (q_b r29.1)) ∧ S' = r29.2) (w.fx fx26) e30 ⟨rfl, rfl⟩)) (q_kI ?_)
          have fx31 : q_Fx x r29.2 := q_Fx.tr (fx26) (fxX12_takes e30)
          refine q_if_ne 241 (by decide) dX12_isMember_236 (fun c => ?_) (fun c => ?_)
          · have c := q_b_n.mp c; rw [q_if1 c] at h
            refine q_sub [0] rfl ?_
            obtain ⟨r32, e33, h⟩ := q_bind h
            cases h
            exact kX12_isMember_241 (w.fx fx31) e33 hQ
          · have c := q_b_0.mp c; rw [q_if0 c] at h
            refine q_iconst (v := (0 : Int32)) (by decide) dX12_isMember_239 ?_
            cases h
            exact q_iret rfl (by decide) dX12_isMember_240 hQ
    replace h := hv
    refine q_if_ne 196 (by decide) dX12_isMember_182 (fun c => ?_) (fun c => ?_)
    · have c := q_b_n.mp c; rw [q_if1 c] at h
      refine q_iconst (v := (1 : Int32)) (by decide) dX12_isMember_196 ?_
      refine q_goto 201 (by decide) dX12_isMember_197 ?_
      obtain rfl := Option.some.inj h
      refine q_sub [0] rfl ?_
      exact K1
    · have c := q_b_0.mp c; rw [q_if0 c] at h
      refine q_aload_n 0 rfl rfl dX12_isMember_185 ?_
      refine q_aload_n 0 rfl rfl dX12_isMember_186 ?_
      refine q_getI (q_sh102 (w.fx fx13)) (by decide) (by decide) rfl lfX12_158 dX12_isMember_187 ?_
      obtain ⟨r16, e17, h⟩ := q_bind h
      refine q_callV (ci := 12) (d := 6) (Mc := mX12_isType) (kc := 0) (nc := 0) [.int (S11.2.1 102 11)] okX12_isType (q_sh102 (w.fx fx13)) (by decide) rfl lmX12_189 inX12_isType seX12_isType rfl (Nat.le_of_ble_eq_true rfl) (Nat.le_of_ble_eq_true rfl) (Nat.le_refl _) (Nat.le_refl _) dX12_isMember_190 (q_L.deep (by decide) (kX12_isType (Q := fun r S' => r = some (.int (q_b r16)) ∧ S' = S11) (w.fx fx13) e17 ⟨rfl, rfl⟩)) (q_kI ?_)
      refine q_if_eq 200 (by decide) dX12_isMember_193 (fun c => ?_) (fun c => ?_)
      · have c := q_b_0.mp c; rw [q_if0 c] at h
        refine q_iconst (v := (0 : Int32)) (by decide) dX12_isMember_200 ?_
        obtain rfl := Option.some.inj h
        refine q_sub [0] rfl ?_
        exact K1
      · have c := q_b_n.mp c; rw [q_if1 c] at h
        refine q_iconst (v := (1 : Int32)) (by decide) dX12_isMember_196 ?_
        refine q_goto 201 (by decide) dX12_isMember_197 ?_
        obtain rfl := Option.some.inj h
        refine q_sub [0] rfl ?_
        exact K1
  · have c := q_b_0.mp c; rw [q_if0 c] at h
    refine q_aload_n 0 rfl rfl dX12_isMember_144 ?_
    refine q_aload_n 0 rfl rfl dX12_isMember_145 ?_
    refine q_aload_n 0 rfl rfl dX12_isMember_146 ?_
    refine q_getI (q_sh102 w) (by decide) (by decide) rfl lfX12_158 dX12_isMember_147 ?_
    obtain ⟨r34, e35, h⟩ := q_bind h
    refine q_callV (ci := 12) (d := 6) (Mc := mX12_isType) (kc := 0) (nc := 0) [.int (x.2.1 102 11)] okX12_isType (q_sh102 w) (by decide) rfl lmX12_189 inX12_isType seX12_isType rfl (Nat.le_of_ble_eq_true rfl) (Nat.le_of_ble_eq_true rfl) (Nat.le_refl _) (Nat.le_refl _) dX12_isMember_150 (q_L.deep (by decide) (kX12_isType (Q := fun r S' => r = some (.int (q_b r34)) ∧ S' = x) w e35 ⟨rfl, rfl⟩)) (q_kI ?_)
    obtain ⟨r36, e37, h⟩ := q_bind h
    refine q_callV (ci := 12) (d := 6) (Mc := mX12_takes) (kc := 0) (nc := 0) [.int (q_b r34)] okX12_takes (q_sh102 w) (by decide) rfl lmX12_167 inX12_takes seX12_takes rfl (Nat.le_of_ble_eq_true rfl) (Nat.le_of_ble_eq_true rfl) (Nat.le_refl _) (Nat.le_refl _) dX12_isMember_153 (q_L.deep (by decide) (kX12_takes (Q := fun r S' => r = some (.int (q_b r36.1)) ∧ S' = r36.2) w e37 ⟨rfl, rfl⟩)) (q_kI ?_)
    have fx38 : q_Fx x r36.2 := q_Fx.tr (q_Fx.rf x) (fxX12_takes e37)
    refine q_if_ne 131 (by decide) dX12_isMember_156 (fun c => ?_) (fun c => ?_)
    · have c := q_b_n.mp c; rw [q_if1 c] at h
      refine q_sub [0] rfl ?_
      cases h
      exact hQ
    · have c := q_b_0.mp c; rw [q_if0 c] at h
      refine q_iconst (v := (0 : Int32)) (by decide) dX12_isMember_159 ?_
      cases h
      exact q_iret rfl (by decide) dX12_isMember_160 hQ
theorem lX12_isMember_131 {g : QG} {Q : Option Value → QS → Prop}   {r : Bool × QS}  (hQ : Q (some (.int (q_b r.1))) r.2) : ∀ (c : Nat) (x : QS), q_Wire x → q_it (tX12_isMember_131) c x = some r → q_L g mX12_isMember 7 0 0 Q 0 0 131 [(0, .ref 102)] [] x := by
  intro c
  induction c with
  | zero => intro x w h; cases h
  | succ c ih =>
    intro x w h
    simp only [q_it] at h
    cases hz : tX12_isMember_131 x with
    | none => rw [hz] at h; cases h
    | some z =>
      rw [hz] at h
      refine sX12_isMember_131 w hz ?_
      rcases z with z | y
      · cases h; exact hQ
      · have fz := fxtX12_isMember_131 hz; exact ih y (w.fx fz) h
theorem kX12_isMember_131 {S : QS} {g : QG} {Q : Option Value → QS → Prop}   {r : Bool × QS} (w : q_Wire S) (h : fX12_isMember_131 S = some r) (hQ : Q (some (.int (q_b r.1))) r.2) : q_L g mX12_isMember 7 0 0 Q 0 0 131 [(0, .ref 102)] [] S := by
  obtain ⟨c, hc⟩ := q_run_it h
  exact lX12_isMember_131  hQ c S w hc
set_option maxRecDepth 20000 in
theorem kX12_isMember {S : QS} {g : QG} {Q : Option Value → QS → Prop}   {r : Bool × QS} (w : q_Wire S) (h : fX12_isMember S = some r) (hQ : Q (some (.int (q_b r.1))) r.2) : q_M g mX12_isMember 7 0 0 [.ref 102] S Q := by
  unfold fX12_isMember at h
  show q_L g mX12_isMember 7 0 0 Q 0 0 0 [(0, .ref 102)] [] S
  refine q_aload_n 0 rfl rfl dX12_isMember_0 ?_
  refine q_aload_n 0 rfl rfl dX12_isMember_1 ?_
  refine q_getI (q_sh102 w) (by decide) (by decide) rfl lfX12_158 dX12_isMember_2 ?_
  refine q_ldcS (j := 33) (r := 1000066) rfl rfl dX12_isMember_5 ?_
  obtain ⟨r39, e40, h⟩ := q_bind h
  refine q_callV (ci := 12) (d := 6) (Mc := mX12_is) (kc := 0) (nc := 0) [.int (S.2.1 102 11), .ref 1000066] okX12_is (q_sh102 w) (by decide) rfl lmX12_163 inX12_is seX12_is rfl (Nat.le_of_ble_eq_true rfl) (Nat.le_of_ble_eq_true rfl) (Nat.le_refl _) (Nat.le_refl _) dX12_isMember_7 (q_L.deep (by decide) (kX12_is (Q := fun r S' => r = some (.int (q_b r39)) ∧ S' = S) w e40 ⟨rfl, rfl⟩)) (q_kI ?_)
  refine q_if_eq 59 (by decide) dX12_isMember_10 (fun c => ?_) (fun c => ?_)
  · have c := q_b_0.mp c; rw [q_if0 c] at h
    refine q_aload_n 0 rfl rfl dX12_isMember_59 ?_
    refine q_aload_n 0 rfl rfl dX12_isMember_60 ?_
    refine q_aload_n 0 rfl rfl dX12_isMember_61 ?_
    refine q_getI (q_sh102 w) (by decide) (by decide) rfl lfX12_158 dX12_isMember_62 ?_
    refine q_ldcS (j := 34) (r := 1000068) rfl rfl dX12_isMember_65 ?_
    obtain ⟨r41, e42, h⟩ := q_bind h
    refine q_callV (ci := 12) (d := 6) (Mc := mX12_is) (kc := 0) (nc := 0) [.int (S.2.1 102 11), .ref 1000068] okX12_is (q_sh102 w) (by decide) rfl lmX12_163 inX12_is seX12_is rfl (Nat.le_of_ble_eq_true rfl) (Nat.le_of_ble_eq_true rfl) (Nat.le_refl _) (Nat.le_refl _) dX12_isMember_67 (q_L.deep (by decide) (kX12_is (Q := fun r S' => r = some (.int (q_b r41)) ∧ S' = S) w e42 ⟨rfl, rfl⟩)) (q_kI ?_)
    obtain ⟨v45, hv, h⟩ := q_bind h
    have K2 : q_L g mX12_isMember 7 0 0 Q 0 0 91 [(0, .ref 102)] [.int (q_b v45), .ref 102] S := by
      obtain ⟨r46, e47, h⟩ := q_bind h
      refine q_callV (ci := 12) (d := 6) (Mc := mX12_takes) (kc := 0) (nc := 0) [.int (q_b v45)] okX12_takes (q_sh102 w) (by decide) rfl lmX12_167 inX12_takes seX12_takes rfl (Nat.le_of_ble_eq_true rfl) (Nat.le_of_ble_eq_true rfl) (Nat.le_refl _) (Nat.le_refl _) dX12_isMember_91 (q_L.deep (by decide) (kX12_takes (Q := fun r S' => r = some (.int (q_b r46.1)) ∧ S' = r46.2) w e47 ⟨rfl, rfl⟩)) (q_kI ?_)
      have fx48 : q_Fx S r46.2 := q_Fx.tr (q_Fx.rf S) (fxX12_takes e47)
      refine q_if_eq 129 (by decide) dX12_isMember_94 (fun c => ?_) (fun c => ?_)
      · have c := q_b_0.mp c; rw [q_if0 c] at h
        refine q_iconst (v := (0 : Int32)) (by decide) dX12_isMember_129 ?_
        obtain rfl := Option.some.inj h
        exact q_iret rfl (by decide) dX12_isMember_130 hQ
      · have c := q_b_n.mp c; rw [q_if1 c] at h
        refine q_aload_n 0 rfl rfl dX12_isMember_97 ?_
        refine q_aload_n 0 rfl rfl dX12_isMember_98 ?_
        refine q_aload_n 0 rfl rfl dX12_isMember_99 ?_
        refine q_getI (q_sh102 (w.fx fx48)) (by decide) (by decide) rfl lfX12_158 dX12_isMember_100 ?_
        obtain ⟨r49, e50, h⟩ := q_bind h
        refine q_callV (ci := 12) (d := 6) (Mc := mX12_isSmallName) (kc := 0) (nc := 0) [.int (r46.2.2.1 102 11)] okX12_isSmallName (q_sh102 (w.fx fx48)) (by decide) rfl lmX12_186 inX12_isSmallName seX12_isSmallName rfl (Nat.le_of_ble_eq_true rfl) (Nat.le_of_ble_eq_true rfl) (Nat.le_refl _) (Nat.le_refl _) dX12_isMember_103 (q_L.deep (by decide) (kX12_isSmallName (Q := fun r S' => r = some (.int (q_b r49)) ∧ S' = r46.2) (w.fx fx48) e50 ⟨rfl, rfl⟩)) (q_kI ?_)
        obtain ⟨r51, e52, h⟩ := q_bind h
        refine q_callV (ci := 12) (d := 6) (Mc := mX12_takes) (kc := 0) (nc := 0) [.int (q_b r49)] okX12_takes (q_sh102 (w.fx fx48)) (by decide) rfl lmX12_167 inX12_takes seX12_takes rfl (Nat.le_of_ble_eq_true rfl) (Nat.le_of_ble_eq_true rfl) (Nat.le_refl _) (Nat.le_refl _) dX12_isMember_106 (q_L.deep (by decide) (kX12_takes (Q := fun r S' => r = some (.int (q_b r51.1)) ∧ S' = r51.2) (w.fx fx48) e52 ⟨rfl, rfl⟩)) (q_kI ?_)
        have fx53 : q_Fx S r51.2 := q_Fx.tr (fx48) (fxX12_takes e52)
        refine q_if_eq 129 (by decide) dX12_isMember_109 (fun c => ?_) (fun c => ?_)
        · have c := q_b_0.mp c; rw [q_if0 c] at h
          refine q_iconst (v := (0 : Int32)) (by decide) dX12_isMember_129 ?_
          obtain rfl := Option.some.inj h
          exact q_iret rfl (by decide) dX12_isMember_130 hQ
        · have c := q_b_n.mp c; rw [q_if1 c] at h
          refine q_aload_n 0 rfl rfl dX12_isMember_112 ?_
          refine q_aload_n 0 rfl rfl dX12_isMember_113 ?_
          refine q_aload_n 0 rfl rfl dX12_isMember_114 ?_
          refine q_getI (q_sh102 (w.fx fx53)) (by decide) (by decide) rfl lfX12_158 dX12_isMember_115 ?_
          refine q_ldcS (j := 36) (r := 1000072) rfl rfl dX12_isMember_118 ?_
          obtain ⟨r54, e55, h⟩ := q_bind h
          refine q_callV (ci := 12) (d := 6) (Mc := mX12_is) (kc := 0) (nc := 0) [.int (r51.2.2.1 102 11), .ref 1000072] okX12_is (q_sh102 (w.fx fx53)) (by decide) rfl lmX12_163 inX12_is seX12_is rfl (Nat.le_of_ble_eq_true rfl) (Nat.le_of_ble_eq_true rfl) (Nat.le_refl _) (Nat.le_refl _) dX12_isMember_120 (q_L.deep (by decide) (kX12_is (Q := fun r S' => r = some (.int (q_b r54)) ∧ S' = r51.2) (w.fx fx53) e55 ⟨rfl, rfl⟩)) (q_kI ?_)
          obtain ⟨r56, e57, h⟩ := q_bind h
          refine q_callV (ci := 12) (d := 6) (Mc := mX12_takes) (kc := 0) (nc := 0) [.int (q_b r54)] okX12_takes (q_sh102 (w.fx fx53)) (by decide) rfl lmX12_167 inX12_takes seX12_takes rfl (Nat.le_of_ble_eq_true rfl) (Nat.le_of_ble_eq_true rfl) (Nat.le_refl _) (Nat.le_refl _) dX12_isMember_123 (q_L.deep (by decide) (kX12_takes (Q := fun r S' => r = some (.int (q_b r56.1)) ∧ S' = r56.2) (w.fx fx53) e57 ⟨rfl, rfl⟩)) (q_kI ?_)
          have fx58 : q_Fx S r56.2 := q_Fx.tr (fx53) (fxX12_takes e57)
          refine q_if_ne 131 (by decide) dX12_isMember_126 (fun c => ?_) (fun c => ?_)
          · have c := q_b_n.mp c; rw [q_if1 c] at h
            refine q_sub [0] rfl ?_
            exact kX12_isMember_131 (w.fx fx58) h hQ
          · have c := q_b_0.mp c; rw [q_if0 c] at h
            refine q_iconst (v := (0 : Int32)) (by decide) dX12_isMember_129 ?_
            obtain rfl := Option.some.inj h
            exact q_iret rfl (by decide) dX12_isMember_130 hQ
    replace h := hv
    refine q_if_ne 86 (by decide) dX12_isMember_70 (fun c => ?_) (fun c => ?_)
    · have c := q_b_n.mp c; rw [q_if1 c] at h
      refine q_iconst (v := (1 : Int32)) (by decide) dX12_isMember_86 ?_
      refine q_goto 91 (by decide) dX12_isMember_87 ?_
      obtain rfl := Option.some.inj h
      refine q_sub [0] rfl ?_
      exact K2
    · have c := q_b_0.mp c; rw [q_if0 c] at h
      refine q_aload_n 0 rfl rfl dX12_isMember_73 ?_
      refine q_aload_n 0 rfl rfl dX12_isMember_74 ?_
      refine q_getI (q_sh102 w) (by decide) (by decide) rfl lfX12_158 dX12_isMember_75 ?_
      refine q_ldcS (j := 35) (r := 1000070) rfl rfl dX12_isMember_78 ?_
      obtain ⟨r43, e44, h⟩ := q_bind h
      refine q_callV (ci := 12) (d := 6) (Mc := mX12_is) (kc := 0) (nc := 0) [.int (S.2.1 102 11), .ref 1000070] okX12_is (q_sh102 w) (by decide) rfl lmX12_163 inX12_is seX12_is rfl (Nat.le_of_ble_eq_true rfl) (Nat.le_of_ble_eq_true rfl) (Nat.le_refl _) (Nat.le_refl _) dX12_isMember_80 (q_L.deep (by decide) (kX12_is (Q := fun r S' => r = some (.int (q_b r43)) ∧ S' = S) w e44 ⟨rfl, rfl⟩)) (q_kI ?_)
      refine q_if_eq 90 (by decide) dX12_isMember_83 (fun c => ?_) (fun c => ?_)
      · have c := q_b_0.mp c; rw [q_if0 c] at h
        refine q_iconst (v := (0 : Int32)) (by decide) dX12_isMember_90 ?_
        obtain rfl := Option.some.inj h
        refine q_sub [0] rfl ?_
        exact K2
      · have c := q_b_n.mp c; rw [q_if1 c] at h
        refine q_iconst (v := (1 : Int32)) (by decide) dX12_isMember_86 ?_
        refine q_goto 91 (by decide) dX12_isMember_87 ?_
        obtain rfl := Option.some.inj h
        refine q_sub [0] rfl ?_
        exact K2
  · have c := q_b_n.mp c; rw [q_if1 c] at h
    refine q_aload_n 0 rfl rfl dX12_isMember_13 ?_
    refine q_dup rfl dX12_isMember_14 ?_
    refine q_getI (q_sh102 w) (by decide) (by decide) rfl lfX12_158 dX12_isMember_15 ?_
    refine q_iconst (v := (1 : Int32)) (by decide) dX12_isMember_18 ?_
    refine q_iadd dX12_isMember_19 ?_
    refine q_putI (q_sh102 w) (by decide) (by decide) rfl rfl ⟨rfl, rfl⟩ lfX12_158 dX12_isMember_20 ?_
    obtain ⟨S59, e60, h⟩ := q_bindS h
    refine q_st e60 ?_
    have fx61 : q_Fx S S59 := e60 ▸ q_Fx.sI (q_Fx.rf S)
    refine q_aload_n 0 rfl rfl dX12_isMember_23 ?_
    refine q_aload_n 0 rfl rfl dX12_isMember_24 ?_
    refine q_aload_n 0 rfl rfl dX12_isMember_25 ?_
    refine q_getI (q_sh102 (w.fx fx61)) (by decide) (by decide) rfl lfX12_158 dX12_isMember_26 ?_
    obtain ⟨r62, e63, h⟩ := q_bind h
    refine q_callV (ci := 12) (d := 6) (Mc := mX12_isSmallName) (kc := 0) (nc := 0) [.int (S59.2.1 102 11)] okX12_isSmallName (q_sh102 (w.fx fx61)) (by decide) rfl lmX12_186 inX12_isSmallName seX12_isSmallName rfl (Nat.le_of_ble_eq_true rfl) (Nat.le_of_ble_eq_true rfl) (Nat.le_refl _) (Nat.le_refl _) dX12_isMember_29 (q_L.deep (by decide) (kX12_isSmallName (Q := fun r S' => r = some (.int (q_b r62)) ∧ S' = S59) (w.fx fx61) e63 ⟨rfl, rfl⟩)) (q_kI ?_)
    obtain ⟨r64, e65, h⟩ := q_bind h
    refine q_callV (ci := 12) (d := 6) (Mc := mX12_takes) (kc := 0) (nc := 0) [.int (q_b r62)] okX12_takes (q_sh102 (w.fx fx61)) (by decide) rfl lmX12_167 inX12_takes seX12_takes rfl (Nat.le_of_ble_eq_true rfl) (Nat.le_of_ble_eq_true rfl) (Nat.le_refl _) (Nat.le_refl _) dX12_isMember_32 (q_L.deep (by decide) (kX12_takes (Q := fun r S' => r = some (.int (q_b r64.1)) ∧ S' = r64.2) (w.fx fx61) e65 ⟨rfl, rfl⟩)) (q_kI ?_)
    have fx66 : q_Fx S r64.2 := q_Fx.tr (fx61) (fxX12_takes e65)
    refine q_if_eq 57 (by decide) dX12_isMember_35 (fun c => ?_) (fun c => ?_)
    · have c := q_b_0.mp c; rw [q_if0 c] at h
      refine q_iconst (v := (0 : Int32)) (by decide) dX12_isMember_57 ?_
      obtain rfl := Option.some.inj h
      exact q_iret rfl (by decide) dX12_isMember_58 hQ
    · have c := q_b_n.mp c; rw [q_if1 c] at h
      refine q_aload_n 0 rfl rfl dX12_isMember_38 ?_
      refine q_aload_n 0 rfl rfl dX12_isMember_39 ?_
      refine q_aload_n 0 rfl rfl dX12_isMember_40 ?_
      refine q_getI (q_sh102 (w.fx fx66)) (by decide) (by decide) rfl lfX12_158 dX12_isMember_41 ?_
      obtain ⟨r67, e68, h⟩ := q_bind h
      refine q_callV (ci := 12) (d := 6) (Mc := mX12_isType) (kc := 0) (nc := 0) [.int (r64.2.2.1 102 11)] okX12_isType (q_sh102 (w.fx fx66)) (by decide) rfl lmX12_189 inX12_isType seX12_isType rfl (Nat.le_of_ble_eq_true rfl) (Nat.le_of_ble_eq_true rfl) (Nat.le_refl _) (Nat.le_refl _) dX12_isMember_44 (q_L.deep (by decide) (kX12_isType (Q := fun r S' => r = some (.int (q_b r67)) ∧ S' = r64.2) (w.fx fx66) e68 ⟨rfl, rfl⟩)) (q_kI ?_)
      obtain ⟨r69, e70, h⟩ := q_bind h
      refine q_callV (ci := 12) (d := 6) (Mc := mX12_takes) (kc := 0) (nc := 0) [.int (q_b r67)] okX12_takes (q_sh102 (w.fx fx66)) (by decide) rfl lmX12_167 inX12_takes seX12_takes rfl (Nat.le_of_ble_eq_true rfl) (Nat.le_of_ble_eq_true rfl) (Nat.le_refl _) (Nat.le_refl _) dX12_isMember_47 (q_L.deep (by decide) (kX12_takes (Q := fun r S' => r = some (.int (q_b r69.1)) ∧ S' = r69.2) (w.fx fx66) e70 ⟨rfl, rfl⟩)) (q_kI ?_)
      have fx71 : q_Fx S r69.2 := q_Fx.tr (fx66) (fxX12_takes e70)
      refine q_if_eq 57 (by decide) dX12_isMember_50 (fun c => ?_) (fun c => ?_)
      · have c := q_b_0.mp c; rw [q_if0 c] at h
        refine q_iconst (v := (0 : Int32)) (by decide) dX12_isMember_57 ?_
        obtain rfl := Option.some.inj h
        exact q_iret rfl (by decide) dX12_isMember_58 hQ
      · have c := q_b_n.mp c; rw [q_if1 c] at h
        refine q_iconst (v := (1 : Int32)) (by decide) dX12_isMember_53 ?_
        refine q_goto 58 (by decide) dX12_isMember_54 ?_
        obtain rfl := Option.some.inj h
        exact q_iret rfl (by decide) dX12_isMember_58 hQ
set_option maxRecDepth 20000 in
theorem sX12_isProgram_99 {g : QG} {Q : Option Value → QS → Prop}   {x : QS} {z : ((Bool × QS) ⊕ (QS)) ⊕ (QS)} (w : q_Wire x) (h : tX12_isProgram_99 x = some z) (hQ : (Sum.elim (fun r1 : (Bool × QS) ⊕ (QS) => (Sum.elim (fun r0 : Bool × QS => Q (some (.int (q_b r0.1))) r0.2) (fun y : QS => q_L g mX12_isProgram 8 0 0 Q 0 0 5 [(0, .ref 102)] [] y) r1)) (fun y' : QS => q_L g mX12_isProgram 8 0 0 Q 0 0 99 [(0, .ref 102)] [] y') z)) : q_L g mX12_isProgram 8 0 0 Q 0 0 99 [(0, .ref 102)] [] x := by
  unfold tX12_isProgram_99 at h
  refine q_aload_n 0 rfl rfl dX12_isProgram_99 ?_
  refine q_aload_n 0 rfl rfl dX12_isProgram_100 ?_
  refine q_getI (q_sh102 w) (by decide) (by decide) rfl lfX12_158 dX12_isProgram_101 ?_
  refine q_ldcS (j := 32) (r := 1000064) rfl rfl dX12_isProgram_104 ?_
  obtain ⟨r1, e2, h⟩ := q_bind h
  refine q_callV (ci := 12) (d := 7) (Mc := mX12_is) (kc := 0) (nc := 0) [.int (x.2.1 102 11), .ref 1000064] okX12_is (q_sh102 w) (by decide) rfl lmX12_163 inX12_is seX12_is rfl (Nat.le_of_ble_eq_true rfl) (Nat.le_of_ble_eq_true rfl) (Nat.le_refl _) (Nat.le_refl _) dX12_isProgram_106 (q_L.deep (by decide) (kX12_is (Q := fun r S' => r = some (.int (q_b r1)) ∧ S' = x) w e2 ⟨rfl, rfl⟩)) (q_kI ?_)
  refine q_if_ne 121 (by decide) dX12_isProgram_109 (fun c => ?_) (fun c => ?_)
  · have c := q_b_n.mp c; rw [q_if1 c] at h
    refine q_aload_n 0 rfl rfl dX12_isProgram_121 ?_
    refine q_dup rfl dX12_isProgram_122 ?_
    refine q_getI (q_sh102 w) (by decide) (by decide) rfl lfX12_158 dX12_isProgram_123 ?_
    refine q_iconst (v := (1 : Int32)) (by decide) dX12_isProgram_126 ?_
    refine q_iadd dX12_isProgram_127 ?_
    refine q_putI (q_sh102 w) (by decide) (by decide) rfl rfl ⟨rfl, rfl⟩ lfX12_158 dX12_isProgram_128 ?_
    obtain ⟨S3, e4, h⟩ := q_bindS h
    refine q_st e4 ?_
    have fx5 : q_Fx x S3 := e4 ▸ q_Fx.sI (q_Fx.rf x)
    refine q_goto 5 (by decide) dX12_isProgram_131 ?_
    refine q_sub [0] rfl ?_
    cases h
    exact hQ
  · have c := q_b_0.mp c; rw [q_if0 c] at h
    refine q_aload_n 0 rfl rfl dX12_isProgram_112 ?_
    obtain ⟨r6, e7, h⟩ := q_bind h
    refine q_callV (ci := 12) (d := 7) (Mc := mX12_isMember) (kc := 0) (nc := 0) [] okX12_isMember (q_sh102 w) (by decide) rfl lmX12_180 inX12_isMember seX12_isMember rfl (Nat.le_of_ble_eq_true rfl) (Nat.le_of_ble_eq_true rfl) (Nat.le_refl _) (Nat.le_refl _) dX12_isProgram_113 (q_L.deep (by decide) (kX12_isMember (Q := fun r S' => r = some (.int (q_b r6.1)) ∧ S' = r6.2) w e7 ⟨rfl, rfl⟩)) (q_kI ?_)
    have fx8 : q_Fx x r6.2 := q_Fx.tr (q_Fx.rf x) (fxX12_isMember e7)
    refine q_if_ne 99 (by decide) dX12_isProgram_116 (fun c => ?_) (fun c => ?_)
    · have c := q_b_n.mp c; rw [q_if1 c] at h
      refine q_sub [0] rfl ?_
      cases h
      exact hQ
    · have c := q_b_0.mp c; rw [q_if0 c] at h
      refine q_iconst (v := (0 : Int32)) (by decide) dX12_isProgram_119 ?_
      cases h
      exact q_iret rfl (by decide) dX12_isProgram_120 hQ
theorem lX12_isProgram_99 {g : QG} {Q : Option Value → QS → Prop}   {r : (Bool × QS) ⊕ (QS)}  (hQ : (Sum.elim (fun r0 : Bool × QS => Q (some (.int (q_b r0.1))) r0.2) (fun y : QS => q_L g mX12_isProgram 8 0 0 Q 0 0 5 [(0, .ref 102)] [] y) r)) : ∀ (c : Nat) (x : QS), q_Wire x → q_it (tX12_isProgram_99) c x = some r → q_L g mX12_isProgram 8 0 0 Q 0 0 99 [(0, .ref 102)] [] x := by
  intro c
  induction c with
  | zero => intro x w h; cases h
  | succ c ih =>
    intro x w h
    simp only [q_it] at h
    cases hz : tX12_isProgram_99 x with
    | none => rw [hz] at h; cases h
    | some z =>
      rw [hz] at h
      refine sX12_isProgram_99 w hz ?_
      rcases z with z | y
      · cases h; exact hQ
      · have fz := fxtX12_isProgram_99 hz; exact ih y (w.fx fz) h
theorem usX12_isProgram_99 {S : QS} {g : QG} {Q : Option Value → QS → Prop}   {r : (Bool × QS) ⊕ (QS)} (w : q_Wire S) (h : uX12_isProgram_99 S = some r) (hQ : (Sum.elim (fun r0 : Bool × QS => Q (some (.int (q_b r0.1))) r0.2) (fun y : QS => q_L g mX12_isProgram 8 0 0 Q 0 0 5 [(0, .ref 102)] [] y) r)) : q_L g mX12_isProgram 8 0 0 Q 0 0 99 [(0, .ref 102)] [] S := by
  obtain ⟨c, hc⟩ := q_run_it h
  exact lX12_isProgram_99  hQ c S w hc
set_option maxRecDepth 20000 in
theorem sX12_isProgram_5 {g : QG} {Q : Option Value → QS → Prop}   {x : QS} {z : (Bool × QS) ⊕ (QS)} (w : q_Wire x) (h : tX12_isProgram_5 x = some z) (hQ : (Sum.elim (fun r0 : Bool × QS => Q (some (.int (q_b r0.1))) r0.2) (fun y : QS => q_L g mX12_isProgram 8 0 0 Q 0 0 5 [(0, .ref 102)] [] y) z)) : q_L g mX12_isProgram 8 0 0 Q 0 0 5 [(0, .ref 102)] [] x := by
  unfold tX12_isProgram_5 at h
  refine q_aload_n 0 rfl rfl dX12_isProgram_5 ?_
  refine q_getI (q_sh102 w) (by decide) (by decide) rfl lfX12_158 dX12_isProgram_6 ?_
  refine q_aload_n 0 rfl rfl dX12_isProgram_9 ?_
  refine q_getI (q_sh102 w) (by decide) (by decide) rfl lfX12_118 dX12_isProgram_10 ?_
  refine q_icmp_ge 134 (by decide) dX12_isProgram_13 (fun c => ?_) (fun c => ?_)
  · rw [if_pos c] at h
    refine q_iconst (v := (1 : Int32)) (by decide) dX12_isProgram_134 ?_
    cases h
    exact q_iret rfl (by decide) dX12_isProgram_135 hQ
  · rw [if_neg c] at h
    refine q_aload_n 0 rfl rfl dX12_isProgram_16 ?_
    refine q_aload_n 0 rfl rfl dX12_isProgram_17 ?_
    refine q_aload_n 0 rfl rfl dX12_isProgram_18 ?_
    refine q_getI (q_sh102 w) (by decide) (by decide) rfl lfX12_158 dX12_isProgram_19 ?_
    refine q_ldcS (j := 29) (r := 1000058) rfl rfl dX12_isProgram_22 ?_
    obtain ⟨r9, e10, h⟩ := q_bind h
    refine q_callV (ci := 12) (d := 7) (Mc := mX12_is) (kc := 0) (nc := 0) [.int (x.2.1 102 11), .ref 1000058] okX12_is (q_sh102 w) (by decide) rfl lmX12_163 inX12_is seX12_is rfl (Nat.le_of_ble_eq_true rfl) (Nat.le_of_ble_eq_true rfl) (Nat.le_refl _) (Nat.le_refl _) dX12_isProgram_24 (q_L.deep (by decide) (kX12_is (Q := fun r S' => r = some (.int (q_b r9)) ∧ S' = x) w e10 ⟨rfl, rfl⟩)) (q_kI ?_)
    obtain ⟨r11, e12, h⟩ := q_bind h
    refine q_callV (ci := 12) (d := 7) (Mc := mX12_takes) (kc := 0) (nc := 0) [.int (q_b r9)] okX12_takes (q_sh102 w) (by decide) rfl lmX12_167 inX12_takes seX12_takes rfl (Nat.le_of_ble_eq_true rfl) (Nat.le_of_ble_eq_true rfl) (Nat.le_refl _) (Nat.le_refl _) dX12_isProgram_27 (q_L.deep (by decide) (kX12_takes (Q := fun r S' => r = some (.int (q_b r11.1)) ∧ S' = r11.2) w e12 ⟨rfl, rfl⟩)) (q_kI ?_)
    have fx13 : q_Fx x r11.2 := q_Fx.tr (q_Fx.rf x) (fxX12_takes e12)
    refine q_if_eq 97 (by decide) dX12_isProgram_30 (fun c => ?_) (fun c => ?_)
    · have c := q_b_0.mp c; rw [q_if0 c] at h
      refine q_iconst (v := (0 : Int32)) (by decide) dX12_isProgram_97 ?_
      cases h
      exact q_iret rfl (by decide) dX12_isProgram_98 hQ
    · have c := q_b_n.mp c; rw [q_if1 c] at h
      refine q_aload_n 0 rfl rfl dX12_isProgram_33 ?_
      refine q_aload_n 0 rfl rfl dX12_isProgram_34 ?_
      refine q_aload_n 0 rfl rfl dX12_isProgram_35 ?_
      refine q_getI (q_sh102 (w.fx fx13)) (by decide) (by decide) rfl lfX12_158 dX12_isProgram_36 ?_
      obtain ⟨r14, e15, h⟩ := q_bind h
      refine q_callV (ci := 12) (d := 7) (Mc := mX12_isClassName) (kc := 0) (nc := 0) [.int (r11.2.2.1 102 11)] okX12_isClassName (q_sh102 (w.fx fx13)) (by decide) rfl lmX12_171 inX12_isClassName seX12_isClassName rfl (Nat.le_of_ble_eq_true rfl) (Nat.le_of_ble_eq_true rfl) (Nat.le_refl _) (Nat.le_refl _) dX12_isProgram_39 (q_L.deep (by decide) (kX12_isClassName (Q := fun r S' => r = some (.int (q_b r14)) ∧ S' = r11.2) (w.fx fx13) e15 ⟨rfl, rfl⟩)) (q_kI ?_)
      obtain ⟨r16, e17, h⟩ := q_bind h
      refine q_callV (ci := 12) (d := 7) (Mc := mX12_takes) (kc := 0) (nc := 0) [.int (q_b r14)] okX12_takes (q_sh102 (w.fx fx13)) (by decide) rfl lmX12_167 inX12_takes seX12_takes rfl (Nat.le_of_ble_eq_true rfl) (Nat.le_of_ble_eq_true rfl) (Nat.le_refl _) (Nat.le_refl _) dX12_isProgram_42 (q_L.deep (by decide) (kX12_takes (Q := fun r S' => r = some (.int (q_b r16.1)) ∧ S' = r16.2) (w.fx fx13) e17 ⟨rfl, rfl⟩)) (q_kI ?_)
      have fx18 : q_Fx x r16.2 := q_Fx.tr (fx13) (fxX12_takes e17)
      refine q_if_eq 97 (by decide) dX12_isProgram_45 (fun c => ?_) (fun c => ?_)
      · have c := q_b_0.mp c; rw [q_if0 c] at h
        refine q_iconst (v := (0 : Int32)) (by decide) dX12_isProgram_97 ?_
        cases h
        exact q_iret rfl (by decide) dX12_isProgram_98 hQ
      · have c := q_b_n.mp c; rw [q_if1 c] at h
        refine q_aload_n 0 rfl rfl dX12_isProgram_48 ?_
        refine q_aload_n 0 rfl rfl dX12_isProgram_49 ?_
        refine q_aload_n 0 rfl rfl dX12_isProgram_50 ?_
        refine q_getI (q_sh102 (w.fx fx18)) (by decide) (by decide) rfl lfX12_158 dX12_isProgram_51 ?_
        refine q_ldcS (j := 30) (r := 1000060) rfl rfl dX12_isProgram_54 ?_
        obtain ⟨r19, e20, h⟩ := q_bind h
        refine q_callV (ci := 12) (d := 7) (Mc := mX12_is) (kc := 0) (nc := 0) [.int (r16.2.2.1 102 11), .ref 1000060] okX12_is (q_sh102 (w.fx fx18)) (by decide) rfl lmX12_163 inX12_is seX12_is rfl (Nat.le_of_ble_eq_true rfl) (Nat.le_of_ble_eq_true rfl) (Nat.le_refl _) (Nat.le_refl _) dX12_isProgram_56 (q_L.deep (by decide) (kX12_is (Q := fun r S' => r = some (.int (q_b r19)) ∧ S' = r16.2) (w.fx fx18) e20 ⟨rfl, rfl⟩)) (q_kI ?_)
        obtain ⟨r21, e22, h⟩ := q_bind h
        refine q_callV (ci := 12) (d := 7) (Mc := mX12_takes) (kc := 0) (nc := 0) [.int (q_b r19)] okX12_takes (q_sh102 (w.fx fx18)) (by decide) rfl lmX12_167 inX12_takes seX12_takes rfl (Nat.le_of_ble_eq_true rfl) (Nat.le_of_ble_eq_true rfl) (Nat.le_refl _) (Nat.le_refl _) dX12_isProgram_59 (q_L.deep (by decide) (kX12_takes (Q := fun r S' => r = some (.int (q_b r21.1)) ∧ S' = r21.2) (w.fx fx18) e22 ⟨rfl, rfl⟩)) (q_kI ?_)
        have fx23 : q_Fx x r21.2 := q_Fx.tr (fx18) (fxX12_takes e22)
        refine q_if_eq 97 (by decide) dX12_isProgram_62 (fun c => ?_) (fun c => ?_)
        · have c := q_b_0.mp c; rw [q_if0 c] at h
          refine q_iconst (v := (0 : Int32)) (by decide) dX12_isProgram_97 ?_
          cases h
          exact q_iret rfl (by decide) dX12_isProgram_98 hQ
        · have c := q_b_n.mp c; rw [q_if1 c] at h
          refine q_aload_n 0 rfl rfl dX12_isProgram_65 ?_
          refine q_aload_n 0 rfl rfl dX12_isProgram_66 ?_
          refine q_aload_n 0 rfl rfl dX12_isProgram_67 ?_
          refine q_getI (q_sh102 (w.fx fx23)) (by decide) (by decide) rfl lfX12_158 dX12_isProgram_68 ?_
          obtain ⟨r24, e25, h⟩ := q_bind h
          refine q_callV (ci := 12) (d := 7) (Mc := mX12_isClassName) (kc := 0) (nc := 0) [.int (r21.2.2.1 102 11)] okX12_isClassName (q_sh102 (w.fx fx23)) (by decide) rfl lmX12_171 inX12_isClassName seX12_isClassName rfl (Nat.le_of_ble_eq_true rfl) (Nat.le_of_ble_eq_true rfl) (Nat.le_refl _) (Nat.le_refl _) dX12_isProgram_71 (q_L.deep (by decide) (kX12_isClassName (Q := fun r S' => r = some (.int (q_b r24)) ∧ S' = r21.2) (w.fx fx23) e25 ⟨rfl, rfl⟩)) (q_kI ?_)
          obtain ⟨r26, e27, h⟩ := q_bind h
          refine q_callV (ci := 12) (d := 7) (Mc := mX12_takes) (kc := 0) (nc := 0) [.int (q_b r24)] okX12_takes (q_sh102 (w.fx fx23)) (by decide) rfl lmX12_167 inX12_takes seX12_takes rfl (Nat.le_of_ble_eq_true rfl) (Nat.le_of_ble_eq_true rfl) (Nat.le_refl _) (Nat.le_refl _) dX12_isProgram_74 (q_L.deep (by decide) (kX12_takes (Q := fun r S' => r = some (.int (q_b r26.1)) ∧ S' = r26.2) (w.fx fx23) e27 ⟨rfl, rfl⟩)) (q_kI ?_)
          have fx28 : q_Fx x r26.2 := q_Fx.tr (fx23) (fxX12_takes e27)
          refine q_if_eq 97 (by decide) dX12_isProgram_77 (fun c => ?_) (fun c => ?_)
          · have c := q_b_0.mp c; rw [q_if0 c] at h
            refine q_iconst (v := (0 : Int32)) (by decide) dX12_isProgram_97 ?_
            cases h
            exact q_iret rfl (by decide) dX12_isProgram_98 hQ
          · have c := q_b_n.mp c; rw [q_if1 c] at h
            refine q_aload_n 0 rfl rfl dX12_isProgram_80 ?_
            refine q_aload_n 0 rfl rfl dX12_isProgram_81 ?_
            refine q_aload_n 0 rfl rfl dX12_isProgram_82 ?_
            refine q_getI (q_sh102 (w.fx fx28)) (by decide) (by decide) rfl lfX12_158 dX12_isProgram_83 ?_
            refine q_ldcS (j := 31) (r := 1000062) rfl rfl dX12_isProgram_86 ?_
            obtain ⟨r29, e30, h⟩ := q_bind h
            refine q_callV (ci := 12) (d := 7) (Mc := mX12_is) (kc := 0) (nc := 0) [.int (r26.2.2.1 102 11), .ref 1000062] okX12_is (q_sh102 (w.fx fx28)) (by decide) rfl lmX12_163 inX12_is seX12_is rfl (Nat.le_of_ble_eq_true rfl) (Nat.le_of_ble_eq_true rfl) (Nat.le_refl _) (Nat.le_refl _) dX12_isProgram_88 (q_L.deep (by decide) (kX12_is (Q := fun r S' => r = some (.int (q_b r29)) ∧ S' = r26.2) (w.fx fx28) e30 ⟨rfl, rfl⟩)) (q_kI ?_)
            obtain ⟨r31, e32, h⟩ := q_bind h
            refine q_callV (ci := 12) (d := 7) (Mc := mX12_takes) (kc := 0) (nc := 0) [.int (q_b r29)] okX12_takes (q_sh102 (w.fx fx28)) (by decide) rfl lmX12_167 inX12_takes seX12_takes rfl (Nat.le_of_ble_eq_true rfl) (Nat.le_of_ble_eq_true rfl) (Nat.le_refl _) (Nat.le_refl _) dX12_isProgram_91 (q_L.deep (by decide) (kX12_takes (Q := fun r S' => r = some (.int (q_b r31.1)) ∧ S' = r31.2) (w.fx fx28) e32 ⟨rfl, rfl⟩)) (q_kI ?_)
            have fx33 : q_Fx x r31.2 := q_Fx.tr (fx28) (fxX12_takes e32)
            refine q_if_ne 99 (by decide) dX12_isProgram_94 (fun c => ?_) (fun c => ?_)
            · have c := q_b_n.mp c; rw [q_if1 c] at h
              refine q_sub [0] rfl ?_
              exact usX12_isProgram_99 (w.fx fx33) h hQ
            · have c := q_b_0.mp c; rw [q_if0 c] at h
              refine q_iconst (v := (0 : Int32)) (by decide) dX12_isProgram_97 ?_
              cases h
              exact q_iret rfl (by decide) dX12_isProgram_98 hQ
theorem lX12_isProgram_5 {g : QG} {Q : Option Value → QS → Prop}   {r : Bool × QS}  (hQ : Q (some (.int (q_b r.1))) r.2) : ∀ (c : Nat) (x : QS), q_Wire x → q_it (tX12_isProgram_5) c x = some r → q_L g mX12_isProgram 8 0 0 Q 0 0 5 [(0, .ref 102)] [] x := by
  intro c
  induction c with
  | zero => intro x w h; cases h
  | succ c ih =>
    intro x w h
    simp only [q_it] at h
    cases hz : tX12_isProgram_5 x with
    | none => rw [hz] at h; cases h
    | some z =>
      rw [hz] at h
      refine sX12_isProgram_5 w hz ?_
      rcases z with z | y
      · cases h; exact hQ
      · have fz := fxtX12_isProgram_5 hz; exact ih y (w.fx fz) h
theorem kX12_isProgram_5 {S : QS} {g : QG} {Q : Option Value → QS → Prop}   {r : Bool × QS} (w : q_Wire S) (h : fX12_isProgram_5 S = some r) (hQ : Q (some (.int (q_b r.1))) r.2) : q_L g mX12_isProgram 8 0 0 Q 0 0 5 [(0, .ref 102)] [] S := by
  obtain ⟨c, hc⟩ := q_run_it h
  exact lX12_isProgram_5  hQ c S w hc
set_option maxRecDepth 20000 in
theorem kX12_isProgram {S : QS} {g : QG} {Q : Option Value → QS → Prop}   {r : Bool × QS} (w : q_Wire S) (h : fX12_isProgram S = some r) (hQ : Q (some (.int (q_b r.1))) r.2) : q_M g mX12_isProgram 8 0 0 [.ref 102] S Q := by
  unfold fX12_isProgram at h
  show q_L g mX12_isProgram 8 0 0 Q 0 0 0 [(0, .ref 102)] [] S
  refine q_aload_n 0 rfl rfl dX12_isProgram_0 ?_
  refine q_iconst (v := (0 : Int32)) (by decide) dX12_isProgram_1 ?_
  refine q_putI (q_sh102 w) (by decide) (by decide) rfl rfl ⟨rfl, rfl⟩ lfX12_158 dX12_isProgram_2 ?_
  obtain ⟨S34, e35, h⟩ := q_bindS h
  refine q_st e35 ?_
  have fx36 : q_Fx S S34 := e35 ▸ q_Fx.sI (q_Fx.rf S)
  refine q_sub [0] rfl ?_
  exact kX12_isProgram_5 (w.fx fx36) h hQ
set_option maxRecDepth 20000 in
theorem kX12_classCount {S : QS} {g : QG} {Q : Option Value → QS → Prop} {q : Nat}  {r : Int32} (w : q_Wire S) (hq : q_qok q) (h : fX12_classCount S q = some r) (hQ : Q (some (.int r)) S) : q_M g mX12_classCount 0 0 0 [.ref 102, .ref q] S Q := by
  unfold fX12_classCount at h
  show q_L g mX12_classCount 0 0 0 Q 0 0 0 [(0, .ref 102), (1, .ref q)] [] S
  refine q_bipush (v := (8 : Int32)) (by decide) dX12_classCount_0 ?_
  refine q_aload_n 1 rfl rfl dX12_classCount_2 ?_
  refine q_getI (q_shQ0 w hq) (by decide) (by decide) rfl lfX12_231 dX12_classCount_3 ?_
  refine q_iadd dX12_classCount_6 ?_
  obtain rfl := Option.some.inj h
  exact q_iret rfl rfl dX12_classCount_7 hQ
set_option maxRecDepth 20000 in
theorem sX12_classOf_22 {S : QS} {g : QG} {Q : Option Value → QS → Prop} {q : Nat} {y2 : Int32} {y3 : Int32} {x : Int32} {z : (Int32) ⊕ (Int32)} (w : q_Wire S) (hq : q_qok q) (h : tX12_classOf_22 S q y2 y3 x = some z) (hQ : (Sum.elim (fun r0 : Int32 => Q (some (.int r0)) S) (fun y : Int32 => q_L g mX12_classOf 5 0 0 Q 0 0 22 [(0, .ref 102), (1, .ref q), (2, .int y2), (3, .int y3), (5, .int y)] [] S) z)) : q_L g mX12_classOf 5 0 0 Q 0 0 22 [(0, .ref 102), (1, .ref q), (2, .int y2), (3, .int y3), (5, .int x)] [] S := by
  unfold tX12_classOf_22 at h
  refine q_iload 4 rfl dX12_classOf_22 ?_
  refine q_aload_n 0 rfl rfl dX12_classOf_24 ?_
  refine q_aload_n 1 rfl rfl dX12_classOf_25 ?_
  obtain ⟨r1, e2, h⟩ := q_bind h
  refine q_callV (ci := 12) (d := 4) (Mc := mX12_classCount) (kc := 0) (nc := 0) [.ref q] okX12_classCount (q_sh102 w) (by decide) rfl lmX12_236 inX12_classCount seX12_classCount rfl (Nat.le_of_ble_eq_true rfl) (Nat.le_of_ble_eq_true rfl) (Nat.le_refl _) (Nat.le_refl _) dX12_classOf_26 (q_L.deep (by decide) (kX12_classCount (Q := fun r S' => r = some (.int r1) ∧ S' = S) w hq e2 ⟨rfl, rfl⟩)) (q_kI ?_)
  refine q_icmp_ge 74 (by decide) dX12_classOf_29 (fun c => ?_) (fun c => ?_)
  · rw [if_pos c] at h
    refine q_iconst (v := (-1 : Int32)) (by decide) dX12_classOf_74 ?_
    cases h
    exact q_iret rfl rfl dX12_classOf_75 hQ
  · rw [if_neg c] at h
    refine q_aload_n 0 rfl rfl dX12_classOf_32 ?_
    refine q_iload_n 2 rfl rfl dX12_classOf_33 ?_
    refine q_iload_n 3 rfl rfl dX12_classOf_34 ?_
    refine q_aload_n 0 rfl rfl dX12_classOf_35 ?_
    refine q_getR (q_sh102 w) (by decide) (by decide) rfl lfX12_26 dX12_classOf_36 (r := 161) (q_wr102_8 w) ?_
    refine q_aload_n 0 rfl rfl dX12_classOf_39 ?_
    refine q_getR (q_sh102 w) (by decide) (by decide) rfl lfX12_37 dX12_classOf_40 (r := 163) (q_wr102_13 w) ?_
    refine q_iload 4 rfl dX12_classOf_43 ?_
    obtain ⟨hg3, h⟩ := q_guard h
    refine q_iald (q_sh163 w) (q_inb_in hg3) dX12_classOf_45 ?_
    obtain ⟨hg4, h⟩ := q_guard h
    refine q_iald (q_sh161 w) (q_inb_in hg4) dX12_classOf_46 ?_
    refine q_aload_n 0 rfl rfl dX12_classOf_47 ?_
    refine q_getR (q_sh102 w) (by decide) (by decide) rfl lfX12_30 dX12_classOf_48 (r := 162) (q_wr102_9 w) ?_
    refine q_aload_n 0 rfl rfl dX12_classOf_51 ?_
    refine q_getR (q_sh102 w) (by decide) (by decide) rfl lfX12_37 dX12_classOf_52 (r := 163) (q_wr102_13 w) ?_
    refine q_iload 4 rfl dX12_classOf_55 ?_
    obtain ⟨hg5, h⟩ := q_guard h
    refine q_iald (q_sh163 w) (q_inb_in hg5) dX12_classOf_57 ?_
    obtain ⟨hg6, h⟩ := q_guard h
    refine q_iald (q_sh162 w) (q_inb_in hg6) dX12_classOf_58 ?_
    obtain ⟨r7, e8, h⟩ := q_bind h
    refine q_callV (ci := 12) (d := 4) (Mc := mX12_isSame) (kc := 0) (nc := 0) [.int y2, .int y3, .int (S.2.1 161 (S.2.1 163 x.toNatClampNeg).toNatClampNeg), .int (S.2.1 162 (S.2.1 163 x.toNatClampNeg).toNatClampNeg)] okX12_isSame (q_sh102 w) (by decide) rfl lmX12_131 inX12_isSame seX12_isSame rfl (Nat.le_of_ble_eq_true rfl) (Nat.le_of_ble_eq_true rfl) (Nat.le_refl _) (Nat.le_refl _) dX12_classOf_59 (q_L.deep (by decide) (kX12_isSame (Q := fun r S' => r = some (.int (q_b r7)) ∧ S' = S) w e8 ⟨rfl, rfl⟩)) (q_kI ?_)
    refine q_if_eq 68 (by decide) dX12_classOf_62 (fun c => ?_) (fun c => ?_)
    · have c := q_b_0.mp c; rw [q_if0 c] at h
      refine q_iinc (v := (x + (1 : Int32))) 4 [(5, .int (x + (1 : Int32))), (0, .ref 102), (1, .ref q), (2, .int y2), (3, .int y3)] (by decide) rfl (congrArg (fun t => x + t) (by decide)) rfl dX12_classOf_68 ?_
      refine q_goto 22 (by decide) dX12_classOf_71 ?_
      refine q_sub [1, 2, 3, 4, 0] rfl ?_
      cases h
      exact hQ
    · have c := q_b_n.mp c; rw [q_if1 c] at h
      refine q_iload 4 rfl dX12_classOf_65 ?_
      cases h
      exact q_iret rfl rfl dX12_classOf_67 hQ
theorem lX12_classOf_22 {S : QS} {g : QG} {Q : Option Value → QS → Prop} {q : Nat} {y2 : Int32} {y3 : Int32} {r : Int32} (w : q_Wire S) (hq : q_qok q) (hQ : Q (some (.int r)) S) : ∀ (c : Nat) (x : Int32), q_it (tX12_classOf_22 S q y2 y3) c x = some r → q_L g mX12_classOf 5 0 0 Q 0 0 22 [(0, .ref 102), (1, .ref q), (2, .int y2), (3, .int y3), (5, .int x)] [] S := by
  intro c
  induction c with
  | zero => intro x  h; cases h
  | succ c ih =>
    intro x  h
    simp only [q_it] at h
    cases hz : tX12_classOf_22 S q y2 y3 x with
    | none => rw [hz] at h; cases h
    | some z =>
      rw [hz] at h
      refine sX12_classOf_22 w hq hz ?_
      rcases z with z | y
      · cases h; exact hQ
      · exact ih y  h
theorem kX12_classOf_22 {S : QS} {g : QG} {Q : Option Value → QS → Prop} {q : Nat} {y2 : Int32} {y3 : Int32} {y5 : Int32} {r : Int32} (w : q_Wire S) (hq : q_qok q) (h : fX12_classOf_22 S q y2 y3 y5 = some r) (hQ : Q (some (.int r)) S) : q_L g mX12_classOf 5 0 0 Q 0 0 22 [(0, .ref 102), (1, .ref q), (2, .int y2), (3, .int y3), (5, .int y5)] [] S := by
  obtain ⟨c, hc⟩ := q_run_it h
  exact lX12_classOf_22 w hq hQ c y5  hc
set_option maxRecDepth 20000 in
theorem kX12_classOf {S : QS} {g : QG} {Q : Option Value → QS → Prop} {q : Nat} {x2 : Int32} {x3 : Int32} {r : Int32} (w : q_Wire S) (hq : q_qok q) (h : fX12_classOf S q x2 x3 = some r) (hQ : Q (some (.int r)) S) : q_M g mX12_classOf 5 0 0 [.ref 102, .ref q, .int x2, .int x3] S Q := by
  unfold fX12_classOf at h
  show q_L g mX12_classOf 5 0 0 Q 0 0 0 [(0, .ref 102), (1, .ref q), (2, .int x2), (3, .int x3)] [] S
  refine q_aload_n 0 rfl rfl dX12_classOf_0 ?_
  refine q_iload_n 2 rfl rfl dX12_classOf_1 ?_
  refine q_iload_n 3 rfl rfl dX12_classOf_2 ?_
  refine q_ldcS (j := 44) (r := 1000088) rfl rfl dX12_classOf_3 ?_
  obtain ⟨r9, e10, h⟩ := q_bind h
  refine q_callV (ci := 12) (d := 4) (Mc := mX12_among) (kc := 0) (nc := 0) [.int x2, .int x3, .ref 1000088] okX12_among (q_sh102 w) (by decide) rfl lmX12_212 inX12_among seX12_among rfl (Nat.le_of_ble_eq_true rfl) (Nat.le_of_ble_eq_true rfl) (Nat.le_refl _) (Nat.le_refl _) dX12_classOf_5 (q_L.deep (by decide) (kX12_among (Q := fun r S' => r = some (.int r9) ∧ S' = S) w e10 ⟨rfl, rfl⟩)) (q_kI ?_)
  refine q_istore [(4, .int r9), (0, .ref 102), (1, .ref q), (2, .int x2), (3, .int x3)] (by decide) rfl dX12_classOf_8 ?_
  refine q_iload 0 rfl dX12_classOf_10 ?_
  refine q_if_lt 18 (by decide) dX12_classOf_12 (fun c => ?_) (fun c => ?_)
  · rw [if_pos c] at h
    refine q_bipush (v := (8 : Int32)) (by decide) dX12_classOf_18 ?_
    refine q_istore [(5, .int (8 : Int32)), (4, .int r9), (0, .ref 102), (1, .ref q), (2, .int x2), (3, .int x3)] (by decide) rfl dX12_classOf_20 ?_
    refine q_sub [2, 3, 4, 5, 0] rfl ?_
    exact kX12_classOf_22 w hq h hQ
  · rw [if_neg c] at h
    refine q_iload 0 rfl dX12_classOf_15 ?_
    obtain rfl := Option.some.inj h
    exact q_iret rfl rfl dX12_classOf_17 hQ
set_option maxRecDepth 20000 in
theorem kX12_classOfToken {S : QS} {g : QG} {Q : Option Value → QS → Prop} {q : Nat} {x2 : Int32} {r : Int32} (w : q_Wire S) (hq : q_qok q) (h : fX12_classOfToken S q x2 = some r) (hQ : Q (some (.int r)) S) : q_M g mX12_classOfToken 6 0 0 [.ref 102, .ref q, .int x2] S Q := by
  unfold fX12_classOfToken at h
  show q_L g mX12_classOfToken 6 0 0 Q 0 0 0 [(0, .ref 102), (1, .ref q), (2, .int x2)] [] S
  refine q_aload_n 0 rfl rfl dX12_classOfToken_0 ?_
  refine q_aload_n 1 rfl rfl dX12_classOfToken_1 ?_
  refine q_aload_n 0 rfl rfl dX12_classOfToken_2 ?_
  refine q_getR (q_sh102 w) (by decide) (by decide) rfl lfX12_26 dX12_classOfToken_3 (r := 161) (q_wr102_8 w) ?_
  refine q_iload_n 2 rfl rfl dX12_classOfToken_6 ?_
  obtain ⟨hg1, h⟩ := q_guard h
  refine q_iald (q_sh161 w) (q_inb_in hg1) dX12_classOfToken_7 ?_
  refine q_aload_n 0 rfl rfl dX12_classOfToken_8 ?_
  refine q_getR (q_sh102 w) (by decide) (by decide) rfl lfX12_30 dX12_classOfToken_9 (r := 162) (q_wr102_9 w) ?_
  refine q_iload_n 2 rfl rfl dX12_classOfToken_12 ?_
  obtain ⟨hg2, h⟩ := q_guard h
  refine q_iald (q_sh162 w) (q_inb_in hg2) dX12_classOfToken_13 ?_
  obtain ⟨r3, e4, h⟩ := q_bind h
  refine q_callV (ci := 12) (d := 5) (Mc := mX12_classOf) (kc := 0) (nc := 0) [.ref q, .int (S.2.1 161 x2.toNatClampNeg), .int (S.2.1 162 x2.toNatClampNeg)] okX12_classOf (q_sh102 w) (by decide) rfl lmX12_240 inX12_classOf seX12_classOf rfl (Nat.le_of_ble_eq_true rfl) (Nat.le_of_ble_eq_true rfl) (Nat.le_refl _) (Nat.le_refl _) dX12_classOfToken_14 (q_L.deep (by decide) (kX12_classOf (Q := fun r S' => r = some (.int r3) ∧ S' = S) w hq e4 ⟨rfl, rfl⟩)) (q_kI ?_)
  obtain rfl := Option.some.inj h
  exact q_iret rfl rfl dX12_classOfToken_17 hQ
set_option maxRecDepth 20000 in
theorem sX12_isAtOrBelow_2 {S : QS} {g : QG} {Q : Option Value → QS → Prop} {q : Nat} {y2 : Int32} {x : Int32} {z : (Bool) ⊕ (Int32)} (w : q_Wire S) (hq : q_qok q) (h : tX12_isAtOrBelow_2 S q y2 x = some z) (hQ : (Sum.elim (fun r0 : Bool => Q (some (.int (q_b r0))) S) (fun y : Int32 => q_L g mX12_isAtOrBelow 0 0 0 Q 0 0 2 [(0, .ref q), (2, .int y2), (3, .int y)] [] S) z)) : q_L g mX12_isAtOrBelow 0 0 0 Q 0 0 2 [(0, .ref q), (2, .int y2), (3, .int x)] [] S := by
  unfold tX12_isAtOrBelow_2 at h
  refine q_iload_n 2 rfl rfl dX12_isAtOrBelow_2 ?_
  refine q_if_lt 21 (by decide) dX12_isAtOrBelow_3 (fun c => ?_) (fun c => ?_)
  · rw [if_pos c] at h
    refine q_iload_n 2 rfl rfl dX12_isAtOrBelow_21 ?_
    refine q_if_lt 29 (by decide) dX12_isAtOrBelow_22 (fun c => ?_) (fun c => ?_)
    · rw [if_pos c] at h
      refine q_iconst (v := (0 : Int32)) (by decide) dX12_isAtOrBelow_29 ?_
      cases h
      exact q_iret rfl (by decide) dX12_isAtOrBelow_30 hQ
    · rw [if_neg c] at h
      refine q_iconst (v := (1 : Int32)) (by decide) dX12_isAtOrBelow_25 ?_
      refine q_goto 30 (by decide) dX12_isAtOrBelow_26 ?_
      cases h
      exact q_iret rfl (by decide) dX12_isAtOrBelow_30 hQ
  · rw [if_neg c] at h
    refine q_iload_n 2 rfl rfl dX12_isAtOrBelow_6 ?_
    refine q_iload_n 1 rfl rfl dX12_isAtOrBelow_7 ?_
    refine q_icmp_eq 21 (by decide) dX12_isAtOrBelow_8 (fun c => ?_) (fun c => ?_)
    · rw [if_pos c] at h
      refine q_iload_n 2 rfl rfl dX12_isAtOrBelow_21 ?_
      refine q_if_lt 29 (by decide) dX12_isAtOrBelow_22 (fun c => ?_) (fun c => ?_)
      · rw [if_pos c] at h
        refine q_iconst (v := (0 : Int32)) (by decide) dX12_isAtOrBelow_29 ?_
        cases h
        exact q_iret rfl (by decide) dX12_isAtOrBelow_30 hQ
      · rw [if_neg c] at h
        refine q_iconst (v := (1 : Int32)) (by decide) dX12_isAtOrBelow_25 ?_
        refine q_goto 30 (by decide) dX12_isAtOrBelow_26 ?_
        cases h
        exact q_iret rfl (by decide) dX12_isAtOrBelow_30 hQ
    · rw [if_neg c] at h
      refine q_aload_n 0 rfl rfl dX12_isAtOrBelow_11 ?_
      refine q_getR (q_shQ0 w hq) (by decide) (by decide) rfl lfX12_244 dX12_isAtOrBelow_12 (r := (q + 1)) (q_wrQ0_7 w hq) ?_
      refine q_iload_n 2 rfl rfl dX12_isAtOrBelow_15 ?_
      obtain ⟨hg1, h⟩ := q_guard h
      refine q_iald (q_shQ1 w hq) (q_inb_in hg1) dX12_isAtOrBelow_16 ?_
      refine q_istore_n [(3, .int (S.2.1 (q + 1) x.toNatClampNeg)), (0, .ref q), (2, .int y2)] rfl (by decide) rfl dX12_isAtOrBelow_17 ?_
      refine q_goto 2 (by decide) dX12_isAtOrBelow_18 ?_
      refine q_sub [1, 2, 0] rfl ?_
      cases h
      exact hQ
theorem lX12_isAtOrBelow_2 {S : QS} {g : QG} {Q : Option Value → QS → Prop} {q : Nat} {y2 : Int32} {r : Bool} (w : q_Wire S) (hq : q_qok q) (hQ : Q (some (.int (q_b r))) S) : ∀ (c : Nat) (x : Int32), q_it (tX12_isAtOrBelow_2 S q y2) c x = some r → q_L g mX12_isAtOrBelow 0 0 0 Q 0 0 2 [(0, .ref q), (2, .int y2), (3, .int x)] [] S := by
  intro c
  induction c with
  | zero => intro x  h; cases h
  | succ c ih =>
    intro x  h
    simp only [q_it] at h
    cases hz : tX12_isAtOrBelow_2 S q y2 x with
    | none => rw [hz] at h; cases h
    | some z =>
      rw [hz] at h
      refine sX12_isAtOrBelow_2 w hq hz ?_
      rcases z with z | y
      · cases h; exact hQ
      · exact ih y  h
theorem kX12_isAtOrBelow_2 {S : QS} {g : QG} {Q : Option Value → QS → Prop} {q : Nat} {y2 : Int32} {y3 : Int32} {r : Bool} (w : q_Wire S) (hq : q_qok q) (h : fX12_isAtOrBelow_2 S q y2 y3 = some r) (hQ : Q (some (.int (q_b r))) S) : q_L g mX12_isAtOrBelow 0 0 0 Q 0 0 2 [(0, .ref q), (2, .int y2), (3, .int y3)] [] S := by
  obtain ⟨c, hc⟩ := q_run_it h
  exact lX12_isAtOrBelow_2 w hq hQ c y3  hc
set_option maxRecDepth 20000 in
theorem kX12_isAtOrBelow {S : QS} {g : QG} {Q : Option Value → QS → Prop} {q : Nat} {x1 : Int32} {x2 : Int32} {r : Bool} (w : q_Wire S) (hq : q_qok q) (h : fX12_isAtOrBelow S q x1 x2 = some r) (hQ : Q (some (.int (q_b r))) S) : q_M g mX12_isAtOrBelow 0 0 0 [.ref q, .int x1, .int x2] S Q := by
  unfold fX12_isAtOrBelow at h
  show q_L g mX12_isAtOrBelow 0 0 0 Q 0 0 0 [(0, .ref q), (1, .int x1), (2, .int x2)] [] S
  refine q_iload_n 1 rfl rfl dX12_isAtOrBelow_0 ?_
  refine q_istore_n [(3, .int x1), (0, .ref q), (1, .int x1), (2, .int x2)] rfl (by decide) rfl dX12_isAtOrBelow_1 ?_
  refine q_sub [1, 3, 0] rfl ?_
  exact kX12_isAtOrBelow_2 w hq h hQ
set_option maxRecDepth 20000 in
theorem kX12_typeOf {S : QS} {g : QG} {Q : Option Value → QS → Prop} {q : Nat} {x2 : Int32} {r : Int32} (w : q_Wire S) (hq : q_qok q) (h : fX12_typeOf S q x2 = some r) (hQ : Q (some (.int r)) S) : q_M g mX12_typeOf 6 0 0 [.ref 102, .ref q, .int x2] S Q := by
  unfold fX12_typeOf at h
  show q_L g mX12_typeOf 6 0 0 Q 0 0 0 [(0, .ref 102), (1, .ref q), (2, .int x2)] [] S
  refine q_aload_n 0 rfl rfl dX12_typeOf_0 ?_
  refine q_iload_n 2 rfl rfl dX12_typeOf_1 ?_
  obtain ⟨r1, e2, h⟩ := q_bind h
  refine q_callV (ci := 12) (d := 5) (Mc := mX12_isArray) (kc := 0) (nc := 0) [.int x2] okX12_isArray (q_sh102 w) (by decide) rfl lmX12_138 inX12_isArray seX12_isArray rfl (Nat.le_of_ble_eq_true rfl) (Nat.le_of_ble_eq_true rfl) (Nat.le_refl _) (Nat.le_refl _) dX12_typeOf_2 (q_L.deep (by decide) (kX12_isArray (Q := fun r S' => r = some (.int (q_b r1)) ∧ S' = S) w e2 ⟨rfl, rfl⟩)) (q_kI ?_)
  refine q_istore_n [(3, .int (q_b r1)), (0, .ref 102), (1, .ref q), (2, .int x2)] rfl (by decide) rfl dX12_typeOf_5 ?_
  refine q_iload_n 0 rfl rfl dX12_typeOf_6 ?_
  obtain ⟨v5, hv, h⟩ := q_bind h
  have K1 : q_L g mX12_typeOf 6 0 0 Q 0 0 27 [(0, .ref 102), (1, .ref q), (2, .int x2), (3, .int (q_b r1))] [.int v5] S := by
    refine q_istore [(4, .int v5), (0, .ref 102), (1, .ref q), (2, .int x2), (3, .int (q_b r1))] (by decide) rfl dX12_typeOf_27 ?_
    refine q_aload_n 1 rfl rfl dX12_typeOf_29 ?_
    refine q_getR (q_sh102 w) (by decide) (by decide) rfl lfX12_23 dX12_typeOf_30 (r := 160) (q_wr102_6 w) ?_
    refine q_aload_n 1 rfl rfl dX12_typeOf_33 ?_
    refine q_getR (q_sh102 w) (by decide) (by decide) rfl lfX12_26 dX12_typeOf_34 (r := 161) (q_wr102_8 w) ?_
    refine q_iload_n 3 rfl rfl dX12_typeOf_37 ?_
    obtain ⟨hg6, h⟩ := q_guard h
    refine q_iald (q_sh161 w) (q_inb_in hg6) dX12_typeOf_38 ?_
    obtain ⟨hg7, h⟩ := q_guard h
    refine q_bald (q_sh160 w) (q_inb_in hg7) dX12_typeOf_39 ?_
    refine q_bipush (v := (105 : Int32)) (by decide) dX12_typeOf_40 ?_
    refine q_icmp_ne 56 (by decide) dX12_typeOf_42 (fun c => ?_) (fun c => ?_)
    · rw [if_neg c] at h
      refine q_aload_n 1 rfl rfl dX12_typeOf_56 ?_
      refine q_aload_n 2 rfl rfl dX12_typeOf_57 ?_
      refine q_aload_n 1 rfl rfl dX12_typeOf_58 ?_
      refine q_getR (q_sh102 w) (by decide) (by decide) rfl lfX12_26 dX12_typeOf_59 (r := 161) (q_wr102_8 w) ?_
      refine q_iload_n 3 rfl rfl dX12_typeOf_62 ?_
      obtain ⟨hg8, h⟩ := q_guard h
      refine q_iald (q_sh161 w) (q_inb_in hg8) dX12_typeOf_63 ?_
      refine q_iload 0 rfl dX12_typeOf_64 ?_
      obtain ⟨r9, e10, h⟩ := q_bind h
      refine q_callV (ci := 12) (d := 5) (Mc := mX12_classOf) (kc := 0) (nc := 0) [.ref q, .int (S.2.1 161 x2.toNatClampNeg), .int v5] okX12_classOf (q_sh102 w) (by decide) rfl lmX12_240 inX12_classOf seX12_classOf rfl (Nat.le_of_ble_eq_true rfl) (Nat.le_of_ble_eq_true rfl) (Nat.le_refl _) (Nat.le_refl _) dX12_typeOf_66 (q_L.deep (by decide) (kX12_classOf (Q := fun r S' => r = some (.int r9) ∧ S' = S) w hq e10 ⟨rfl, rfl⟩)) (q_kI ?_)
      refine q_istore [(5, .int r9), (4, .int v5), (0, .ref 102), (1, .ref q), (2, .int x2), (3, .int (q_b r1))] (by decide) rfl dX12_typeOf_69 ?_
      refine q_iload 0 rfl dX12_typeOf_71 ?_
      refine q_if_ge 80 (by decide) dX12_typeOf_73 (fun c => ?_) (fun c => ?_)
      · rw [if_pos c] at h
        refine q_iload_n 5 rfl rfl dX12_typeOf_80 ?_
        refine q_if_eq 92 (by decide) dX12_typeOf_81 (fun c => ?_) (fun c => ?_)
        · have c := q_b_0.mp c; rw [q_if0 c] at h
          refine q_bipush (v := (8 : Int32)) (by decide) dX12_typeOf_92 ?_
          refine q_iload 0 rfl dX12_typeOf_94 ?_
          refine q_iadd dX12_typeOf_96 ?_
          obtain rfl := Option.some.inj h
          exact q_iret rfl rfl dX12_typeOf_97 hQ
        · have c := q_b_n.mp c; rw [q_if1 c] at h
          refine q_bipush (v := (48 : Int32)) (by decide) dX12_typeOf_84 ?_
          refine q_iload 0 rfl dX12_typeOf_86 ?_
          refine q_iadd dX12_typeOf_88 ?_
          refine q_goto 97 (by decide) dX12_typeOf_89 ?_
          obtain rfl := Option.some.inj h
          exact q_iret rfl rfl dX12_typeOf_97 hQ
      · rw [if_neg c] at h
        refine q_iconst (v := (-1 : Int32)) (by decide) dX12_typeOf_76 ?_
        refine q_goto 97 (by decide) dX12_typeOf_77 ?_
        obtain rfl := Option.some.inj h
        exact q_iret rfl rfl dX12_typeOf_97 hQ
    · rw [if_pos c] at h
      refine q_iload_n 4 rfl rfl dX12_typeOf_45 ?_
      refine q_if_eq 54 (by decide) dX12_typeOf_46 (fun c => ?_) (fun c => ?_)
      · have c := q_b_0.mp c; rw [q_if0 c] at h
        refine q_iconst (v := (0 : Int32)) (by decide) dX12_typeOf_54 ?_
        obtain rfl := Option.some.inj h
        exact q_iret rfl rfl dX12_typeOf_55 hQ
      · have c := q_b_n.mp c; rw [q_if1 c] at h
        refine q_bipush (v := (40 : Int32)) (by decide) dX12_typeOf_49 ?_
        refine q_goto 55 (by decide) dX12_typeOf_51 ?_
        obtain rfl := Option.some.inj h
        exact q_iret rfl rfl dX12_typeOf_55 hQ
  replace h := hv
  refine q_if_eq 21 (by decide) dX12_typeOf_7 (fun c => ?_) (fun c => ?_)
  · have c := q_b_0.mp c; rw [q_if0 c] at h
    refine q_aload_n 1 rfl rfl dX12_typeOf_21 ?_
    refine q_getR (q_sh102 w) (by decide) (by decide) rfl lfX12_30 dX12_typeOf_22 (r := 162) (q_wr102_9 w) ?_
    refine q_iload_n 3 rfl rfl dX12_typeOf_25 ?_
    obtain ⟨hg3, h⟩ := q_guard h
    refine q_iald (q_sh162 w) (q_inb_in hg3) dX12_typeOf_26 ?_
    obtain rfl := Option.some.inj h
    refine q_sub [1, 2, 3, 0] rfl ?_
    exact K1
  · have c := q_b_n.mp c; rw [q_if1 c] at h
    refine q_aload_n 1 rfl rfl dX12_typeOf_10 ?_
    refine q_getR (q_sh102 w) (by decide) (by decide) rfl lfX12_30 dX12_typeOf_11 (r := 162) (q_wr102_9 w) ?_
    refine q_iload_n 3 rfl rfl dX12_typeOf_14 ?_
    obtain ⟨hg4, h⟩ := q_guard h
    refine q_iald (q_sh162 w) (q_inb_in hg4) dX12_typeOf_15 ?_
    refine q_iconst (v := (2 : Int32)) (by decide) dX12_typeOf_16 ?_
    refine q_isub dX12_typeOf_17 ?_
    refine q_goto 27 (by decide) dX12_typeOf_18 ?_
    obtain rfl := Option.some.inj h
    refine q_sub [1, 2, 3, 0] rfl ?_
    exact K1
set_option maxRecDepth 20000 in
theorem sX12_behind_20 {S : QS} {g : QG} {Q : Option Value → QS → Prop}   {x : Int32 × Int32} {z : (Int32) ⊕ (Int32 × Int32)} (w : q_Wire S) (h : tX12_behind_20 S x = some z) (hQ : (Sum.elim (fun r0 : Int32 => Q (some (.int r0)) S) (fun y : Int32 × Int32 => q_L g mX12_behind 5 0 0 Q 0 0 20 [(0, .ref 102), (2, .int y.1), (3, .int y.2)] [] S) z)) : q_L g mX12_behind 5 0 0 Q 0 0 20 [(0, .ref 102), (2, .int x.1), (3, .int x.2)] [] S := by
  unfold tX12_behind_20 at h
  refine q_aload_n 0 rfl rfl dX12_behind_20 ?_
  refine q_iload_n 1 rfl rfl dX12_behind_21 ?_
  refine q_ldcS (j := 31) (r := 1000062) rfl rfl dX12_behind_22 ?_
  obtain ⟨r1, e2, h⟩ := q_bind h
  refine q_callV (ci := 12) (d := 4) (Mc := mX12_is) (kc := 0) (nc := 0) [.int x.1, .ref 1000062] okX12_is (q_sh102 w) (by decide) rfl lmX12_163 inX12_is seX12_is rfl (Nat.le_of_ble_eq_true rfl) (Nat.le_of_ble_eq_true rfl) (Nat.le_refl _) (Nat.le_refl _) dX12_behind_24 (q_L.deep (by decide) (kX12_is (Q := fun r S' => r = some (.int (q_b r1)) ∧ S' = S) w e2 ⟨rfl, rfl⟩)) (q_kI ?_)
  obtain ⟨v3, hv, h⟩ := q_bind h
  have K1 : q_L g mX12_behind 5 0 0 Q 0 0 33 [(0, .ref 102), (2, .int x.1), (3, .int v3)] [] S := by
    refine q_aload_n 0 rfl rfl dX12_behind_33 ?_
    refine q_iload_n 1 rfl rfl dX12_behind_34 ?_
    refine q_ldcS (j := 32) (r := 1000064) rfl rfl dX12_behind_35 ?_
    obtain ⟨r4, e5, h⟩ := q_bind h
    refine q_callV (ci := 12) (d := 4) (Mc := mX12_is) (kc := 0) (nc := 0) [.int x.1, .ref 1000064] okX12_is (q_sh102 w) (by decide) rfl lmX12_163 inX12_is seX12_is rfl (Nat.le_of_ble_eq_true rfl) (Nat.le_of_ble_eq_true rfl) (Nat.le_refl _) (Nat.le_refl _) dX12_behind_37 (q_L.deep (by decide) (kX12_is (Q := fun r S' => r = some (.int (q_b r4)) ∧ S' = S) w e5 ⟨rfl, rfl⟩)) (q_kI ?_)
    obtain ⟨v6, hv, h⟩ := q_bind h
    have K2 : q_L g mX12_behind 5 0 0 Q 0 0 46 [(0, .ref 102), (2, .int x.1), (3, .int v6)] [] S := by
      refine q_iinc (v := (x.1 + (1 : Int32))) 1 [(2, .int (x.1 + (1 : Int32))), (0, .ref 102), (3, .int v6)] (by decide) rfl (congrArg (fun t => x.1 + t) (by decide)) rfl dX12_behind_46 ?_
      refine q_iload_n 2 rfl rfl dX12_behind_49 ?_
      refine q_if_gt 20 (by decide) dX12_behind_50 (fun c => ?_) (fun c => ?_)
      · rw [if_pos c] at h
        refine q_sub [1, 0, 2] rfl ?_
        cases h
        exact hQ
      · rw [if_neg c] at h
        refine q_iload_n 0 rfl rfl dX12_behind_53 ?_
        cases h
        exact q_iret rfl rfl dX12_behind_54 hQ
    replace h := hv
    refine q_if_eq 46 (by decide) dX12_behind_40 (fun c => ?_) (fun c => ?_)
    · have c := q_b_0.mp c; rw [q_if0 c] at h
      obtain rfl := Option.some.inj h
      refine q_sub [0, 1, 2] rfl ?_
      exact K2
    · have c := q_b_n.mp c; rw [q_if1 c] at h
      refine q_iinc (v := (v3 - (1 : Int32))) 2 [(3, .int (v3 - (1 : Int32))), (0, .ref 102), (2, .int x.1)] (by decide) rfl (q_decI v3) rfl dX12_behind_43 ?_
      obtain rfl := Option.some.inj h
      refine q_sub [1, 2, 0] rfl ?_
      exact K2
  replace h := hv
  refine q_if_eq 33 (by decide) dX12_behind_27 (fun c => ?_) (fun c => ?_)
  · have c := q_b_0.mp c; rw [q_if0 c] at h
    obtain rfl := Option.some.inj h
    refine q_sub [0, 1, 2] rfl ?_
    exact K1
  · have c := q_b_n.mp c; rw [q_if1 c] at h
    refine q_iinc (v := (x.2 + (1 : Int32))) 2 [(3, .int (x.2 + (1 : Int32))), (0, .ref 102), (2, .int x.1)] (by decide) rfl (congrArg (fun t => x.2 + t) (by decide)) rfl dX12_behind_30 ?_
    obtain rfl := Option.some.inj h
    refine q_sub [1, 2, 0] rfl ?_
    exact K1
theorem lX12_behind_20 {S : QS} {g : QG} {Q : Option Value → QS → Prop}   {r : Int32} (w : q_Wire S) (hQ : Q (some (.int r)) S) : ∀ (c : Nat) (x : Int32 × Int32), q_it (tX12_behind_20 S) c x = some r → q_L g mX12_behind 5 0 0 Q 0 0 20 [(0, .ref 102), (2, .int x.1), (3, .int x.2)] [] S := by
  intro c
  induction c with
  | zero => intro x  h; cases h
  | succ c ih =>
    intro x  h
    simp only [q_it] at h
    cases hz : tX12_behind_20 S x with
    | none => rw [hz] at h; cases h
    | some z =>
      rw [hz] at h
      refine sX12_behind_20 w hz ?_
      rcases z with z | y
      · cases h; exact hQ
      · exact ih y  h
theorem kX12_behind_20 {S : QS} {g : QG} {Q : Option Value → QS → Prop}  {y2 : Int32} {y3 : Int32} {r : Int32} (w : q_Wire S) (h : fX12_behind_20 S y2 y3 = some r) (hQ : Q (some (.int r)) S) : q_L g mX12_behind 5 0 0 Q 0 0 20 [(0, .ref 102), (2, .int y2), (3, .int y3)] [] S := by
  obtain ⟨c, hc⟩ := q_run_it h
  exact lX12_behind_20 w hQ c (y2, y3)  hc
set_option maxRecDepth 20000 in
theorem sX12_behind_2 {S : QS} {g : QG} {Q : Option Value → QS → Prop}   {x : Int32} {z : (Int32) ⊕ (Int32)} (w : q_Wire S) (h : tX12_behind_2 S x = some z) (hQ : (Sum.elim (fun r0 : Int32 => Q (some (.int r0)) S) (fun y : Int32 => q_L g mX12_behind 5 0 0 Q 0 0 2 [(0, .ref 102), (2, .int y)] [] S) z)) : q_L g mX12_behind 5 0 0 Q 0 0 2 [(0, .ref 102), (2, .int x)] [] S := by
  unfold tX12_behind_2 at h
  refine q_aload_n 0 rfl rfl dX12_behind_2 ?_
  refine q_iload_n 1 rfl rfl dX12_behind_3 ?_
  refine q_ldcS (j := 31) (r := 1000062) rfl rfl dX12_behind_4 ?_
  obtain ⟨r7, e8, h⟩ := q_bind h
  refine q_callV (ci := 12) (d := 4) (Mc := mX12_is) (kc := 0) (nc := 0) [.int x, .ref 1000062] okX12_is (q_sh102 w) (by decide) rfl lmX12_163 inX12_is seX12_is rfl (Nat.le_of_ble_eq_true rfl) (Nat.le_of_ble_eq_true rfl) (Nat.le_refl _) (Nat.le_refl _) dX12_behind_6 (q_L.deep (by decide) (kX12_is (Q := fun r S' => r = some (.int (q_b r7)) ∧ S' = S) w e8 ⟨rfl, rfl⟩)) (q_kI ?_)
  refine q_if_ne 18 (by decide) dX12_behind_9 (fun c => ?_) (fun c => ?_)
  · have c := q_b_n.mp c; rw [q_if1 c] at h
    refine q_iconst (v := (0 : Int32)) (by decide) dX12_behind_18 ?_
    refine q_istore_n [(3, .int (0 : Int32)), (0, .ref 102), (2, .int x)] rfl (by decide) rfl dX12_behind_19 ?_
    refine q_sub [1, 2, 0] rfl ?_
    obtain ⟨r9, e10, h⟩ := q_bind h
    cases h
    exact kX12_behind_20 w e10 hQ
  · have c := q_b_0.mp c; rw [q_if0 c] at h
    refine q_iinc (v := (x + (1 : Int32))) 1 [(2, .int (x + (1 : Int32))), (0, .ref 102)] (by decide) rfl (congrArg (fun t => x + t) (by decide)) rfl dX12_behind_12 ?_
    refine q_goto 2 (by decide) dX12_behind_15 ?_
    refine q_sub [1, 0] rfl ?_
    cases h
    exact hQ
theorem lX12_behind_2 {S : QS} {g : QG} {Q : Option Value → QS → Prop}   {r : Int32} (w : q_Wire S) (hQ : Q (some (.int r)) S) : ∀ (c : Nat) (x : Int32), q_it (tX12_behind_2 S) c x = some r → q_L g mX12_behind 5 0 0 Q 0 0 2 [(0, .ref 102), (2, .int x)] [] S := by
  intro c
  induction c with
  | zero => intro x  h; cases h
  | succ c ih =>
    intro x  h
    simp only [q_it] at h
    cases hz : tX12_behind_2 S x with
    | none => rw [hz] at h; cases h
    | some z =>
      rw [hz] at h
      refine sX12_behind_2 w hz ?_
      rcases z with z | y
      · cases h; exact hQ
      · exact ih y  h
theorem kX12_behind_2 {S : QS} {g : QG} {Q : Option Value → QS → Prop}  {y2 : Int32} {r : Int32} (w : q_Wire S) (h : fX12_behind_2 S y2 = some r) (hQ : Q (some (.int r)) S) : q_L g mX12_behind 5 0 0 Q 0 0 2 [(0, .ref 102), (2, .int y2)] [] S := by
  obtain ⟨c, hc⟩ := q_run_it h
  exact lX12_behind_2 w hQ c y2  hc
set_option maxRecDepth 20000 in
theorem kX12_behind {S : QS} {g : QG} {Q : Option Value → QS → Prop}  {x1 : Int32} {r : Int32} (w : q_Wire S) (h : fX12_behind S x1 = some r) (hQ : Q (some (.int r)) S) : q_M g mX12_behind 5 0 0 [.ref 102, .int x1] S Q := by
  unfold fX12_behind at h
  show q_L g mX12_behind 5 0 0 Q 0 0 0 [(0, .ref 102), (1, .int x1)] [] S
  refine q_iload_n 1 rfl rfl dX12_behind_0 ?_
  refine q_istore_n [(2, .int x1), (0, .ref 102), (1, .int x1)] rfl (by decide) rfl dX12_behind_1 ?_
  refine q_sub [1, 0] rfl ?_
  exact kX12_behind_2 w h hQ
set_option maxRecDepth 20000 in
theorem kX12_behindMember {S : QS} {g : QG} {Q : Option Value → QS → Prop}  {x1 : Int32} {r : Int32} (w : q_Wire S) (h : fX12_behindMember S x1 = some r) (hQ : Q (some (.int r)) S) : q_M g mX12_behindMember 6 0 0 [.ref 102, .int x1] S Q := by
  unfold fX12_behindMember at h
  show q_L g mX12_behindMember 6 0 0 Q 0 0 0 [(0, .ref 102), (1, .int x1)] [] S
  refine q_aload_n 0 rfl rfl dX12_behindMember_0 ?_
  refine q_iload_n 1 rfl rfl dX12_behindMember_1 ?_
  refine q_ldcS (j := 33) (r := 1000066) rfl rfl dX12_behindMember_2 ?_
  obtain ⟨r1, e2, h⟩ := q_bind h
  refine q_callV (ci := 12) (d := 5) (Mc := mX12_is) (kc := 0) (nc := 0) [.int x1, .ref 1000066] okX12_is (q_sh102 w) (by decide) rfl lmX12_163 inX12_is seX12_is rfl (Nat.le_of_ble_eq_true rfl) (Nat.le_of_ble_eq_true rfl) (Nat.le_refl _) (Nat.le_refl _) dX12_behindMember_4 (q_L.deep (by decide) (kX12_is (Q := fun r S' => r = some (.int (q_b r1)) ∧ S' = S) w e2 ⟨rfl, rfl⟩)) (q_kI ?_)
  refine q_if_eq 16 (by decide) dX12_behindMember_7 (fun c => ?_) (fun c => ?_)
  · have c := q_b_0.mp c; rw [q_if0 c] at h
    refine q_aload_n 0 rfl rfl dX12_behindMember_16 ?_
    refine q_iload_n 1 rfl rfl dX12_behindMember_17 ?_
    obtain ⟨r3, e4, h⟩ := q_bind h
    refine q_callV (ci := 12) (d := 5) (Mc := mX12_behind) (kc := 0) (nc := 0) [.int x1] okX12_behind (q_sh102 w) (by decide) rfl lmX12_247 inX12_behind seX12_behind rfl (Nat.le_of_ble_eq_true rfl) (Nat.le_of_ble_eq_true rfl) (Nat.le_refl _) (Nat.le_refl _) dX12_behindMember_18 (q_L.deep (by decide) (kX12_behind (Q := fun r S' => r = some (.int r3) ∧ S' = S) w e4 ⟨rfl, rfl⟩)) (q_kI ?_)
    obtain rfl := Option.some.inj h
    exact q_iret rfl rfl dX12_behindMember_21 hQ
  · have c := q_b_n.mp c; rw [q_if1 c] at h
    refine q_iload_n 1 rfl rfl dX12_behindMember_10 ?_
    refine q_iconst (v := (3 : Int32)) (by decide) dX12_behindMember_11 ?_
    refine q_iadd dX12_behindMember_12 ?_
    refine q_goto 21 (by decide) dX12_behindMember_13 ?_
    obtain rfl := Option.some.inj h
    exact q_iret rfl rfl dX12_behindMember_21 hQ
set_option maxRecDepth 20000 in
theorem kX12_wrong {S : QS} {g : QG} {Q : Option Value → QS → Prop}  {x1 : Int32} {r : Bool × QS} (w : q_Wire S) (h : fX12_wrong S x1 = some r) (hQ : Q (some (.int (q_b r.1))) r.2) : q_M g mX12_wrong 0 0 0 [.ref 102, .int x1] S Q := by
  unfold fX12_wrong at h
  show q_L g mX12_wrong 0 0 0 Q 0 0 0 [(0, .ref 102), (1, .int x1)] [] S
  refine q_aload_n 0 rfl rfl dX12_wrong_0 ?_
  refine q_iload_n 1 rfl rfl dX12_wrong_1 ?_
  refine q_putI (q_sh102 w) (by decide) (by decide) rfl rfl ⟨rfl, rfl⟩ lfX12_33 dX12_wrong_2 ?_
  obtain ⟨S1, e2, h⟩ := q_bindS h
  refine q_st e2 ?_
  have fx3 : q_Fx S S1 := e2 ▸ q_Fx.sI (q_Fx.rf S)
  refine q_iconst (v := (0 : Int32)) (by decide) dX12_wrong_5 ?_
  obtain rfl := Option.some.inj h
  exact q_iret rfl (by decide) dX12_wrong_6 hQ
set_option maxRecDepth 20000 in
theorem sX12_classNames_45 {g : QG} {Q : Option Value → QS → Prop} {q : Nat}  {x : Int32 × QS} {z : (Bool × QS) ⊕ (Int32 × QS)} (w : q_Wire x.2) (hq : q_qok q) (h : tX12_classNames_45 q x = some z) (hQ : (Sum.elim (fun r0 : Bool × QS => Q (some (.int (q_b r0.1))) r0.2) (fun y : Int32 × QS => q_L g mX12_classNames 7 0 0 Q 0 0 45 [(0, .ref 102), (1, .ref q), (2, .int y.1)] [] y.2) z)) : q_L g mX12_classNames 7 0 0 Q 0 0 45 [(0, .ref 102), (1, .ref q), (2, .int x.1)] [] x.2 := by
  unfold tX12_classNames_45 at h
  refine q_iload_n 2 rfl rfl dX12_classNames_45 ?_
  refine q_aload_n 0 rfl rfl dX12_classNames_46 ?_
  refine q_getI (q_sh102 w) (by decide) (by decide) rfl lfX12_118 dX12_classNames_47 ?_
  refine q_icmp_ge 149 (by decide) dX12_classNames_50 (fun c => ?_) (fun c => ?_)
  · rw [if_pos c] at h
    refine q_iconst (v := (1 : Int32)) (by decide) dX12_classNames_149 ?_
    cases h
    exact q_iret rfl (by decide) dX12_classNames_150 hQ
  · rw [if_neg c] at h
    refine q_aload_n 0 rfl rfl dX12_classNames_53 ?_
    refine q_aload_n 1 rfl rfl dX12_classNames_54 ?_
    refine q_iload_n 2 rfl rfl dX12_classNames_55 ?_
    refine q_iconst (v := (1 : Int32)) (by decide) dX12_classNames_56 ?_
    refine q_iadd dX12_classNames_57 ?_
    obtain ⟨r1, e2, h⟩ := q_bind h
    refine q_callV (ci := 12) (d := 6) (Mc := mX12_classOfToken) (kc := 0) (nc := 0) [.ref q, .int (x.1 + (1 : Int32))] okX12_classOfToken (q_sh102 w) (by decide) rfl lmX12_250 inX12_classOfToken seX12_classOfToken rfl (Nat.le_of_ble_eq_true rfl) (Nat.le_of_ble_eq_true rfl) (Nat.le_refl _) (Nat.le_refl _) dX12_classNames_58 (q_L.deep (by decide) (kX12_classOfToken (Q := fun r S' => r = some (.int r1) ∧ S' = x.2) w hq e2 ⟨rfl, rfl⟩)) (q_kI ?_)
    refine q_if_ge 73 (by decide) dX12_classNames_61 (fun c => ?_) (fun c => ?_)
    · rw [if_pos c] at h
      refine q_aload_n 0 rfl rfl dX12_classNames_73 ?_
      refine q_iload_n 2 rfl rfl dX12_classNames_74 ?_
      refine q_iconst (v := (1 : Int32)) (by decide) dX12_classNames_75 ?_
      refine q_iadd dX12_classNames_76 ?_
      obtain ⟨r3, e4, h⟩ := q_bind h
      refine q_callV (ci := 12) (d := 6) (Mc := mX12_wrong) (kc := 0) (nc := 0) [.int (x.1 + (1 : Int32))] okX12_wrong (q_sh102 w) (by decide) rfl lmX12_254 inX12_wrong seX12_wrong rfl (Nat.le_of_ble_eq_true rfl) (Nat.le_of_ble_eq_true rfl) (Nat.le_refl _) (Nat.le_refl _) dX12_classNames_77 (q_L.deep (by decide) (kX12_wrong (Q := fun r S' => r = some (.int (q_b r3.1)) ∧ S' = r3.2) w e4 ⟨rfl, rfl⟩)) (q_kI ?_)
      have fx5 : q_Fx x.2 r3.2 := q_Fx.tr (q_Fx.rf x.2) (fxX12_wrong e4)
      cases h
      exact q_iret rfl (q_b_nar _) dX12_classNames_80 hQ
    · rw [if_neg c] at h
      refine q_aload_n 1 rfl rfl dX12_classNames_64 ?_
      refine q_getI (q_shQ0 w hq) (by decide) (by decide) rfl lfX12_231 dX12_classNames_65 ?_
      refine q_bipush (v := (24 : Int32)) (by decide) dX12_classNames_68 ?_
      refine q_icmp_ne 81 (by decide) dX12_classNames_70 (fun c => ?_) (fun c => ?_)
      · rw [if_neg c] at h
        refine q_aload_n 0 rfl rfl dX12_classNames_81 ?_
        refine q_aload_n 1 rfl rfl dX12_classNames_82 ?_
        refine q_iload_n 2 rfl rfl dX12_classNames_83 ?_
        refine q_iconst (v := (3 : Int32)) (by decide) dX12_classNames_84 ?_
        refine q_iadd dX12_classNames_85 ?_
        obtain ⟨r6, e7, h⟩ := q_bind h
        refine q_callV (ci := 12) (d := 6) (Mc := mX12_classOfToken) (kc := 0) (nc := 0) [.ref q, .int (x.1 + (3 : Int32))] okX12_classOfToken (q_sh102 w) (by decide) rfl lmX12_250 inX12_classOfToken seX12_classOfToken rfl (Nat.le_of_ble_eq_true rfl) (Nat.le_of_ble_eq_true rfl) (Nat.le_refl _) (Nat.le_refl _) dX12_classNames_86 (q_L.deep (by decide) (kX12_classOfToken (Q := fun r S' => r = some (.int r6) ∧ S' = x.2) w hq e7 ⟨rfl, rfl⟩)) (q_kI ?_)
        refine q_istore_n [(3, .int r6), (0, .ref 102), (1, .ref q), (2, .int x.1)] rfl (by decide) rfl dX12_classNames_89 ?_
        refine q_iload_n 0 rfl rfl dX12_classNames_90 ?_
        refine q_if_ge 102 (by decide) dX12_classNames_91 (fun c => ?_) (fun c => ?_)
        · rw [if_pos c] at h
          refine q_aload_n 1 rfl rfl dX12_classNames_102 ?_
          refine q_getR (q_sh102 w) (by decide) (by decide) rfl lfX12_37 dX12_classNames_103 (r := 163) (q_wr102_13 w) ?_
          refine q_bipush (v := (8 : Int32)) (by decide) dX12_classNames_106 ?_
          refine q_aload_n 2 rfl rfl dX12_classNames_108 ?_
          refine q_getI (q_shQ0 w hq) (by decide) (by decide) rfl lfX12_231 dX12_classNames_109 ?_
          refine q_iadd dX12_classNames_112 ?_
          refine q_iload_n 3 rfl rfl dX12_classNames_113 ?_
          refine q_iconst (v := (1 : Int32)) (by decide) dX12_classNames_114 ?_
          refine q_iadd dX12_classNames_115 ?_
          obtain ⟨hg8, h⟩ := q_guard h
          refine q_iast (q_sh163 w) (q_inb_in hg8) dX12_classNames_116 ?_
          obtain ⟨S9, e10, h⟩ := q_bindS h
          refine q_st e10 ?_
          have fx11 : q_Fx x.2 S9 := e10 ▸ q_Fx.sI (q_Fx.rf x.2)
          refine q_aload_n 2 rfl rfl dX12_classNames_117 ?_
          refine q_getR (q_shQ0 (w.fx fx11) hq) (by decide) (by decide) rfl lfX12_244 dX12_classNames_118 (r := (q + 1)) (q_wrQ0_7 (w.fx fx11) hq) ?_
          refine q_bipush (v := (8 : Int32)) (by decide) dX12_classNames_121 ?_
          refine q_aload_n 2 rfl rfl dX12_classNames_123 ?_
          refine q_getI (q_shQ0 (w.fx fx11) hq) (by decide) (by decide) rfl lfX12_231 dX12_classNames_124 ?_
          refine q_iadd dX12_classNames_127 ?_
          refine q_iload_n 0 rfl rfl dX12_classNames_128 ?_
          obtain ⟨hg12, h⟩ := q_guard h
          refine q_iast (q_shQ1 (w.fx fx11) hq) (q_inb_in hg12) dX12_classNames_129 ?_
          obtain ⟨S13, e14, h⟩ := q_bindS h
          refine q_st e14 ?_
          have fx15 : q_Fx x.2 S13 := e14 ▸ q_Fx.sI (fx11)
          refine q_aload_n 2 rfl rfl dX12_classNames_130 ?_
          refine q_dup rfl dX12_classNames_131 ?_
          refine q_getI (q_shQ0 (w.fx fx15) hq) (by decide) (by decide) rfl lfX12_231 dX12_classNames_132 ?_
          refine q_iconst (v := (1 : Int32)) (by decide) dX12_classNames_135 ?_
          refine q_iadd dX12_classNames_136 ?_
          refine q_putI (q_shQ0 (w.fx fx15) hq) (by decide) (by decide) rfl rfl ⟨rfl, rfl⟩ lfX12_231 dX12_classNames_137 ?_
          obtain ⟨S16, e17, h⟩ := q_bindS h
          refine q_st e17 ?_
          have fx18 : q_Fx x.2 S16 := e17 ▸ q_Fx.sI (fx15)
          refine q_aload_n 1 rfl rfl dX12_classNames_140 ?_
          refine q_iload_n 3 rfl rfl dX12_classNames_141 ?_
          obtain ⟨r19, e20, h⟩ := q_bind h
          refine q_callV (ci := 12) (d := 6) (Mc := mX12_behind) (kc := 0) (nc := 0) [.int x.1] okX12_behind (q_sh102 (w.fx fx18)) (by decide) rfl lmX12_247 inX12_behind seX12_behind rfl (Nat.le_of_ble_eq_true rfl) (Nat.le_of_ble_eq_true rfl) (Nat.le_refl _) (Nat.le_refl _) dX12_classNames_142 (q_L.deep (by decide) (kX12_behind (Q := fun r S' => r = some (.int r19) ∧ S' = S16) (w.fx fx18) e20 ⟨rfl, rfl⟩)) (q_kI ?_)
          refine q_istore_n [(2, .int r19), (3, .int r6), (0, .ref 102), (1, .ref q)] rfl (by decide) rfl dX12_classNames_145 ?_
          refine q_goto 45 (by decide) dX12_classNames_146 ?_
          refine q_sub [2, 3, 0] rfl ?_
          cases h
          exact hQ
        · rw [if_neg c] at h
          refine q_aload_n 1 rfl rfl dX12_classNames_94 ?_
          refine q_iload_n 3 rfl rfl dX12_classNames_95 ?_
          refine q_iconst (v := (3 : Int32)) (by decide) dX12_classNames_96 ?_
          refine q_iadd dX12_classNames_97 ?_
          obtain ⟨r21, e22, h⟩ := q_bind h
          refine q_callV (ci := 12) (d := 6) (Mc := mX12_wrong) (kc := 0) (nc := 0) [.int (x.1 + (3 : Int32))] okX12_wrong (q_sh102 w) (by decide) rfl lmX12_254 inX12_wrong seX12_wrong rfl (Nat.le_of_ble_eq_true rfl) (Nat.le_of_ble_eq_true rfl) (Nat.le_refl _) (Nat.le_refl _) dX12_classNames_98 (q_L.deep (by decide) (kX12_wrong (Q := fun r S' => r = some (.int (q_b r21.1)) ∧ S' = r21.2) w e22 ⟨rfl, rfl⟩)) (q_kI ?_)
          have fx23 : q_Fx x.2 r21.2 := q_Fx.tr (q_Fx.rf x.2) (fxX12_wrong e22)
          cases h
          exact q_iret rfl (q_b_nar _) dX12_classNames_101 hQ
      · rw [if_pos c] at h
        refine q_aload_n 0 rfl rfl dX12_classNames_73 ?_
        refine q_iload_n 2 rfl rfl dX12_classNames_74 ?_
        refine q_iconst (v := (1 : Int32)) (by decide) dX12_classNames_75 ?_
        refine q_iadd dX12_classNames_76 ?_
        obtain ⟨r24, e25, h⟩ := q_bind h
        refine q_callV (ci := 12) (d := 6) (Mc := mX12_wrong) (kc := 0) (nc := 0) [.int (x.1 + (1 : Int32))] okX12_wrong (q_sh102 w) (by decide) rfl lmX12_254 inX12_wrong seX12_wrong rfl (Nat.le_of_ble_eq_true rfl) (Nat.le_of_ble_eq_true rfl) (Nat.le_refl _) (Nat.le_refl _) dX12_classNames_77 (q_L.deep (by decide) (kX12_wrong (Q := fun r S' => r = some (.int (q_b r24.1)) ∧ S' = r24.2) w e25 ⟨rfl, rfl⟩)) (q_kI ?_)
        have fx26 : q_Fx x.2 r24.2 := q_Fx.tr (q_Fx.rf x.2) (fxX12_wrong e25)
        cases h
        exact q_iret rfl (q_b_nar _) dX12_classNames_80 hQ
theorem lX12_classNames_45 {g : QG} {Q : Option Value → QS → Prop} {q : Nat}  {r : Bool × QS} (hq : q_qok q) (hQ : Q (some (.int (q_b r.1))) r.2) : ∀ (c : Nat) (x : Int32 × QS), q_Wire x.2 → q_it (tX12_classNames_45 q) c x = some r → q_L g mX12_classNames 7 0 0 Q 0 0 45 [(0, .ref 102), (1, .ref q), (2, .int x.1)] [] x.2 := by
  intro c
  induction c with
  | zero => intro x w h; cases h
  | succ c ih =>
    intro x w h
    simp only [q_it] at h
    cases hz : tX12_classNames_45 q x with
    | none => rw [hz] at h; cases h
    | some z =>
      rw [hz] at h
      refine sX12_classNames_45 w hq hz ?_
      rcases z with z | y
      · cases h; exact hQ
      · have fz := fxtX12_classNames_45 hz; exact ih y (w.fx fz) h
theorem kX12_classNames_45 {S : QS} {g : QG} {Q : Option Value → QS → Prop} {q : Nat} {y2 : Int32} {r : Bool × QS} (w : q_Wire S) (hq : q_qok q) (h : fX12_classNames_45 S q y2 = some r) (hQ : Q (some (.int (q_b r.1))) r.2) : q_L g mX12_classNames 7 0 0 Q 0 0 45 [(0, .ref 102), (1, .ref q), (2, .int y2)] [] S := by
  obtain ⟨c, hc⟩ := q_run_it h
  exact lX12_classNames_45 hq hQ c (y2, S) w hc
set_option maxRecDepth 20000 in
theorem sX12_classNames_7 {g : QG} {Q : Option Value → QS → Prop} {q : Nat}  {x : Int32 × QS} {z : (Bool × QS) ⊕ (Int32 × QS)} (w : q_Wire x.2) (hq : q_qok q) (h : tX12_classNames_7 q x = some z) (hQ : (Sum.elim (fun r0 : Bool × QS => Q (some (.int (q_b r0.1))) r0.2) (fun y : Int32 × QS => q_L g mX12_classNames 7 0 0 Q 0 0 7 [(0, .ref 102), (1, .ref q), (2, .int y.1)] [] y.2) z)) : q_L g mX12_classNames 7 0 0 Q 0 0 7 [(0, .ref 102), (1, .ref q), (2, .int x.1)] [] x.2 := by
  unfold tX12_classNames_7 at h
  refine q_iload_n 2 rfl rfl dX12_classNames_7 ?_
  refine q_bipush (v := (8 : Int32)) (by decide) dX12_classNames_8 ?_
  refine q_icmp_ge 43 (by decide) dX12_classNames_10 (fun c => ?_) (fun c => ?_)
  · rw [if_pos c] at h
    refine q_iconst (v := (0 : Int32)) (by decide) dX12_classNames_43 ?_
    refine q_istore_n [(2, .int (0 : Int32)), (0, .ref 102), (1, .ref q)] rfl (by decide) rfl dX12_classNames_44 ?_
    refine q_sub [1, 2, 0] rfl ?_
    obtain ⟨r27, e28, h⟩ := q_bind h
    cases h
    exact kX12_classNames_45 w hq e28 hQ
  · rw [if_neg c] at h
    refine q_aload_n 1 rfl rfl dX12_classNames_13 ?_
    refine q_getR (q_shQ0 w hq) (by decide) (by decide) rfl lfX12_244 dX12_classNames_14 (r := (q + 1)) (q_wrQ0_7 w hq) ?_
    refine q_iload_n 2 rfl rfl dX12_classNames_17 ?_
    refine q_iload_n 2 rfl rfl dX12_classNames_18 ?_
    refine q_if_ne 26 (by decide) dX12_classNames_19 (fun c => ?_) (fun c => ?_)
    · rw [if_neg c] at h
      refine q_iload_n 2 rfl rfl dX12_classNames_26 ?_
      refine q_iconst (v := (1 : Int32)) (by decide) dX12_classNames_27 ?_
      refine q_icmp_ne 35 (by decide) dX12_classNames_28 (fun c => ?_) (fun c => ?_)
      · rw [if_neg c] at h
        refine q_iconst (v := (1 : Int32)) (by decide) dX12_classNames_35 ?_
        obtain ⟨hg29, h⟩ := q_guard h
        refine q_iast (q_shQ1 w hq) (q_inb_in hg29) dX12_classNames_36 ?_
        obtain ⟨S30, e31, h⟩ := q_bindS h
        refine q_st e31 ?_
        have fx32 : q_Fx x.2 S30 := e31 ▸ q_Fx.sI (q_Fx.rf x.2)
        refine q_iinc (v := (x.1 + (1 : Int32))) 2 [(2, .int (x.1 + (1 : Int32))), (0, .ref 102), (1, .ref q)] (by decide) rfl (congrArg (fun t => x.1 + t) (by decide)) rfl dX12_classNames_37 ?_
        refine q_goto 7 (by decide) dX12_classNames_40 ?_
        refine q_sub [1, 2, 0] rfl ?_
        cases h
        exact hQ
      · rw [if_pos c] at h
        refine q_iconst (v := (0 : Int32)) (by decide) dX12_classNames_31 ?_
        refine q_goto 36 (by decide) dX12_classNames_32 ?_
        obtain ⟨hg33, h⟩ := q_guard h
        refine q_iast (q_shQ1 w hq) (q_inb_in hg33) dX12_classNames_36 ?_
        obtain ⟨S34, e35, h⟩ := q_bindS h
        refine q_st e35 ?_
        have fx36 : q_Fx x.2 S34 := e35 ▸ q_Fx.sI (q_Fx.rf x.2)
        refine q_iinc (v := (x.1 + (1 : Int32))) 2 [(2, .int (x.1 + (1 : Int32))), (0, .ref 102), (1, .ref q)] (by decide) rfl (congrArg (fun t => x.1 + t) (by decide)) rfl dX12_classNames_37 ?_
        refine q_goto 7 (by decide) dX12_classNames_40 ?_
        refine q_sub [1, 2, 0] rfl ?_
        cases h
        exact hQ
    · rw [if_pos c] at h
      refine q_iconst (v := (-1 : Int32)) (by decide) dX12_classNames_22 ?_
      refine q_goto 36 (by decide) dX12_classNames_23 ?_
      obtain ⟨hg37, h⟩ := q_guard h
      refine q_iast (q_shQ1 w hq) (q_inb_in hg37) dX12_classNames_36 ?_
      obtain ⟨S38, e39, h⟩ := q_bindS h
      refine q_st e39 ?_
      have fx40 : q_Fx x.2 S38 := e39 ▸ q_Fx.sI (q_Fx.rf x.2)
      refine q_iinc (v := (x.1 + (1 : Int32))) 2 [(2, .int (x.1 + (1 : Int32))), (0, .ref 102), (1, .ref q)] (by decide) rfl (congrArg (fun t => x.1 + t) (by decide)) rfl dX12_classNames_37 ?_
      refine q_goto 7 (by decide) dX12_classNames_40 ?_
      refine q_sub [1, 2, 0] rfl ?_
      cases h
      exact hQ
theorem lX12_classNames_7 {g : QG} {Q : Option Value → QS → Prop} {q : Nat}  {r : Bool × QS} (hq : q_qok q) (hQ : Q (some (.int (q_b r.1))) r.2) : ∀ (c : Nat) (x : Int32 × QS), q_Wire x.2 → q_it (tX12_classNames_7 q) c x = some r → q_L g mX12_classNames 7 0 0 Q 0 0 7 [(0, .ref 102), (1, .ref q), (2, .int x.1)] [] x.2 := by
  intro c
  induction c with
  | zero => intro x w h; cases h
  | succ c ih =>
    intro x w h
    simp only [q_it] at h
    cases hz : tX12_classNames_7 q x with
    | none => rw [hz] at h; cases h
    | some z =>
      rw [hz] at h
      refine sX12_classNames_7 w hq hz ?_
      rcases z with z | y
      · cases h; exact hQ
      · have fz := fxtX12_classNames_7 hz; exact ih y (w.fx fz) h
theorem kX12_classNames_7 {S : QS} {g : QG} {Q : Option Value → QS → Prop} {q : Nat} {y2 : Int32} {r : Bool × QS} (w : q_Wire S) (hq : q_qok q) (h : fX12_classNames_7 S q y2 = some r) (hQ : Q (some (.int (q_b r.1))) r.2) : q_L g mX12_classNames 7 0 0 Q 0 0 7 [(0, .ref 102), (1, .ref q), (2, .int y2)] [] S := by
  obtain ⟨c, hc⟩ := q_run_it h
  exact lX12_classNames_7 hq hQ c (y2, S) w hc
set_option maxRecDepth 20000 in
theorem kX12_classNames {S : QS} {g : QG} {Q : Option Value → QS → Prop} {q : Nat}  {r : Bool × QS} (w : q_Wire S) (hq : q_qok q) (h : fX12_classNames S q = some r) (hQ : Q (some (.int (q_b r.1))) r.2) : q_M g mX12_classNames 7 0 0 [.ref 102, .ref q] S Q := by
  unfold fX12_classNames at h
  show q_L g mX12_classNames 7 0 0 Q 0 0 0 [(0, .ref 102), (1, .ref q)] [] S
  refine q_aload_n 1 rfl rfl dX12_classNames_0 ?_
  refine q_iconst (v := (0 : Int32)) (by decide) dX12_classNames_1 ?_
  refine q_putI (q_shQ0 w hq) (by decide) (by decide) rfl rfl ⟨rfl, rfl⟩ lfX12_231 dX12_classNames_2 ?_
  obtain ⟨S41, e42, h⟩ := q_bindS h
  refine q_st e42 ?_
  have fx43 : q_Fx S S41 := e42 ▸ q_Fx.sI (q_Fx.rf S)
  refine q_iconst (v := (0 : Int32)) (by decide) dX12_classNames_5 ?_
  refine q_istore_n [(2, .int (0 : Int32)), (0, .ref 102), (1, .ref q)] rfl (by decide) rfl dX12_classNames_6 ?_
  refine q_sub [1, 2, 0] rfl ?_
  exact kX12_classNames_7 (w.fx fx43) hq h hQ
