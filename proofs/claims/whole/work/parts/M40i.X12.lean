set_option maxRecDepth 20000 in
theorem sX12_areArguments_11 {S : QS} {g : QG} {Q : Option Value → QS → Prop} {q : Nat} {y2 : Int32} {y3 : Int32} {y4 : Int32} {x : Int32} {z : (Bool) ⊕ (Int32)} (w : q_Wire S) (hq : q_qok q) (h : tX12_areArguments_11 S q y2 y3 y4 x = some z) (hQ : (Sum.elim (fun r0 : Bool => Q (some (.int (q_b r0))) S) (fun y : Int32 => q_L g mX12_areArguments 2 0 0 Q 0 0 11 [(0, .ref 102), (1, .ref q), (2, .int y2), (3, .int y3), (4, .int y4), (5, .int y)] [] S) z)) : q_L g mX12_areArguments 2 0 0 Q 0 0 11 [(0, .ref 102), (1, .ref q), (2, .int y2), (3, .int y3), (4, .int y4), (5, .int x)] [] S := by
  unfold tX12_areArguments_11 at h
  refine q_iload 5 rfl dX12_areArguments_11 ?_
  refine q_iload 4 rfl dX12_areArguments_13 ?_
  refine q_icmp_ge 92 (by decide) dX12_areArguments_15 (fun c => ?_) (fun c => ?_)
  · rw [if_pos c] at h
    refine q_iconst (v := (1 : Int32)) (by decide) dX12_areArguments_92 ?_
    cases h
    exact q_iret rfl (by decide) dX12_areArguments_93 hQ
  · rw [if_neg c] at h
    refine q_iload 5 rfl dX12_areArguments_18 ?_
    obtain ⟨v5, hv, h⟩ := q_bind h
    have K1 : q_L g mX12_areArguments 2 0 0 Q 0 0 58 [(0, .ref 102), (1, .ref q), (2, .int y2), (3, .int y3), (4, .int y4), (5, .int x)] [.int v5] S := by
      refine q_istore [(6, .int v5), (0, .ref 102), (1, .ref q), (2, .int y2), (3, .int y3), (4, .int y4), (5, .int x)] (by decide) rfl dX12_areArguments_58 ?_
      refine q_aload_n 2 rfl rfl dX12_areArguments_60 ?_
      refine q_aload_n 1 rfl rfl dX12_areArguments_61 ?_
      refine q_getR (q_sh102 w) (by decide) (by decide) rfl lfX12_61 dX12_areArguments_62 (r := 171) (q_wr102_22 w) ?_
      refine q_aload_n 1 rfl rfl dX12_areArguments_65 ?_
      refine q_getI (q_sh102 w) (by decide) (by decide) rfl lfX12_451 dX12_areArguments_66 ?_
      refine q_iload 5 rfl dX12_areArguments_69 ?_
      refine q_isub dX12_areArguments_71 ?_
      refine q_iload 6 rfl dX12_areArguments_72 ?_
      refine q_iadd dX12_areArguments_74 ?_
      obtain ⟨hg6, h⟩ := q_guard h
      refine q_iald (q_sh171 w) (q_inb_in hg6) dX12_areArguments_75 ?_
      refine q_iload 0 rfl dX12_areArguments_76 ?_
      obtain ⟨r7, e8, h⟩ := q_bind h
      refine q_callS (d := 1) (Mc := mX12_isBelow) (kc := 0) (nc := 0) [.ref q, .int (S.2.1 171 (((S.2.1 102 23) - y4) + x).toNatClampNeg), .int v5] okX12_isBelow lmX12_436 inX12_isBelow rfl (Nat.le_of_ble_eq_true rfl) (Nat.le_of_ble_eq_true rfl) (Nat.le_refl _) (Nat.le_refl _) dX12_areArguments_78 (q_L.deep (by decide) (kX12_isBelow (Q := fun r S' => r = some (.int (q_b r7)) ∧ S' = S) w hq e8 ⟨rfl, rfl⟩)) (q_kI ?_)
      refine q_if_ne 86 (by decide) dX12_areArguments_81 (fun c => ?_) (fun c => ?_)
      · have c := q_b_n.mp c; rw [q_if1 c] at h
        refine q_iinc (v := (x + (1 : Int32))) 6 [(5, .int (x + (1 : Int32))), (6, .int v5), (0, .ref 102), (1, .ref q), (2, .int y2), (3, .int y3), (4, .int y4)] (by decide) rfl (congrArg (fun t => x + t) (by decide)) rfl dX12_areArguments_86 ?_
        refine q_goto 11 (by decide) dX12_areArguments_89 ?_
        refine q_sub [2, 3, 4, 5, 6, 0] rfl ?_
        cases h
        exact hQ
      · have c := q_b_0.mp c; rw [q_if0 c] at h
        refine q_iconst (v := (0 : Int32)) (by decide) dX12_areArguments_84 ?_
        cases h
        exact q_iret rfl (by decide) dX12_areArguments_85 hQ
    replace h := hv
    refine q_if_ne 46 (by decide) dX12_areArguments_20 (fun c => ?_) (fun c => ?_)
    · rw [if_neg c] at h
      refine q_aload_n 1 rfl rfl dX12_areArguments_46 ?_
      refine q_getR (q_shQ0 w hq) (by decide) (by decide) rfl lfX12_305 dX12_areArguments_47 (r := (q + 9)) (q_wrQ0_15 w hq) ?_
      refine q_iload_n 3 rfl rfl dX12_areArguments_50 ?_
      refine q_bipush (v := (12 : Int32)) (by decide) dX12_areArguments_51 ?_
      refine q_imul dX12_areArguments_53 ?_
      refine q_iload 5 rfl dX12_areArguments_54 ?_
      refine q_iadd dX12_areArguments_56 ?_
      obtain ⟨hg1, h⟩ := q_guard h
      refine q_iald (q_shQ9 w hq) (q_inb_in hg1) dX12_areArguments_57 ?_
      obtain rfl := Option.some.inj h
      refine q_sub [0, 1, 2, 3, 4, 5] rfl ?_
      exact K1
    · rw [if_pos c] at h
      refine q_aload_n 1 rfl rfl dX12_areArguments_23 ?_
      refine q_getR (q_shQ0 w hq) (by decide) (by decide) rfl lfX12_353 dX12_areArguments_24 (r := (q + 15)) (q_wrQ0_21 w hq) ?_
      refine q_iload_n 2 rfl rfl dX12_areArguments_27 ?_
      obtain ⟨hg2, h⟩ := q_guard h
      refine q_iald (q_shQ15 w hq) (q_inb_in hg2) dX12_areArguments_28 ?_
      refine q_bipush (v := (40 : Int32)) (by decide) dX12_areArguments_29 ?_
      refine q_icmp_ne 46 (by decide) dX12_areArguments_31 (fun c => ?_) (fun c => ?_)
      · rw [if_neg c] at h
        refine q_aload_n 1 rfl rfl dX12_areArguments_46 ?_
        refine q_getR (q_shQ0 w hq) (by decide) (by decide) rfl lfX12_305 dX12_areArguments_47 (r := (q + 9)) (q_wrQ0_15 w hq) ?_
        refine q_iload_n 3 rfl rfl dX12_areArguments_50 ?_
        refine q_bipush (v := (12 : Int32)) (by decide) dX12_areArguments_51 ?_
        refine q_imul dX12_areArguments_53 ?_
        refine q_iload 5 rfl dX12_areArguments_54 ?_
        refine q_iadd dX12_areArguments_56 ?_
        obtain ⟨hg3, h⟩ := q_guard h
        refine q_iald (q_shQ9 w hq) (q_inb_in hg3) dX12_areArguments_57 ?_
        obtain rfl := Option.some.inj h
        refine q_sub [0, 1, 2, 3, 4, 5] rfl ?_
        exact K1
      · rw [if_pos c] at h
        refine q_bipush (v := (8 : Int32)) (by decide) dX12_areArguments_34 ?_
        refine q_aload_n 1 rfl rfl dX12_areArguments_36 ?_
        refine q_getR (q_shQ0 w hq) (by decide) (by decide) rfl lfX12_379 dX12_areArguments_37 (r := (q + 17)) (q_wrQ0_23 w hq) ?_
        refine q_iload_n 2 rfl rfl dX12_areArguments_40 ?_
        obtain ⟨hg4, h⟩ := q_guard h
        refine q_iald (q_shQ17 w hq) (q_inb_in hg4) dX12_areArguments_41 ?_
        refine q_iadd dX12_areArguments_42 ?_
        refine q_goto 58 (by decide) dX12_areArguments_43 ?_
        obtain rfl := Option.some.inj h
        refine q_sub [0, 1, 2, 3, 4, 5] rfl ?_
        exact K1
theorem lX12_areArguments_11 {S : QS} {g : QG} {Q : Option Value → QS → Prop} {q : Nat} {y2 : Int32} {y3 : Int32} {y4 : Int32} {r : Bool} (w : q_Wire S) (hq : q_qok q) (hQ : Q (some (.int (q_b r))) S) : ∀ (c : Nat) (x : Int32), q_it (tX12_areArguments_11 S q y2 y3 y4) c x = some r → q_L g mX12_areArguments 2 0 0 Q 0 0 11 [(0, .ref 102), (1, .ref q), (2, .int y2), (3, .int y3), (4, .int y4), (5, .int x)] [] S := by
  intro c
  induction c with
  | zero => intro x  h; cases h
  | succ c ih =>
    intro x  h
    simp only [q_it] at h
    cases hz : tX12_areArguments_11 S q y2 y3 y4 x with
    | none => rw [hz] at h; cases h
    | some z =>
      rw [hz] at h
      refine sX12_areArguments_11 w hq hz ?_
      rcases z with z | y
      · cases h; exact hQ
      · exact ih y  h
theorem kX12_areArguments_11 {S : QS} {g : QG} {Q : Option Value → QS → Prop} {q : Nat} {y2 : Int32} {y3 : Int32} {y4 : Int32} {y5 : Int32} {r : Bool} (w : q_Wire S) (hq : q_qok q) (h : fX12_areArguments_11 S q y2 y3 y4 y5 = some r) (hQ : Q (some (.int (q_b r))) S) : q_L g mX12_areArguments 2 0 0 Q 0 0 11 [(0, .ref 102), (1, .ref q), (2, .int y2), (3, .int y3), (4, .int y4), (5, .int y5)] [] S := by
  obtain ⟨c, hc⟩ := q_run_it h
  exact lX12_areArguments_11 w hq hQ c y5  hc
set_option maxRecDepth 20000 in
theorem kX12_areArguments {S : QS} {g : QG} {Q : Option Value → QS → Prop} {q : Nat} {x2 : Int32} {x3 : Int32} {r : Bool} (w : q_Wire S) (hq : q_qok q) (h : fX12_areArguments S q x2 x3 = some r) (hQ : Q (some (.int (q_b r))) S) : q_M g mX12_areArguments 2 0 0 [.ref 102, .ref q, .int x2, .int x3] S Q := by
  unfold fX12_areArguments at h
  show q_L g mX12_areArguments 2 0 0 Q 0 0 0 [(0, .ref 102), (1, .ref q), (2, .int x2), (3, .int x3)] [] S
  refine q_aload_n 1 rfl rfl dX12_areArguments_0 ?_
  refine q_getR (q_shQ0 w hq) (by decide) (by decide) rfl lfX12_313 dX12_areArguments_1 (r := (q + 8)) (q_wrQ0_14 w hq) ?_
  refine q_iload_n 3 rfl rfl dX12_areArguments_4 ?_
  obtain ⟨hg9, h⟩ := q_guard h
  refine q_iald (q_shQ8 w hq) (q_inb_in hg9) dX12_areArguments_5 ?_
  refine q_istore [(4, .int (S.2.1 (q + 8) x3.toNatClampNeg)), (0, .ref 102), (1, .ref q), (2, .int x2), (3, .int x3)] (by decide) rfl dX12_areArguments_6 ?_
  refine q_iconst (v := (0 : Int32)) (by decide) dX12_areArguments_8 ?_
  refine q_istore [(5, .int (0 : Int32)), (4, .int (S.2.1 (q + 8) x3.toNatClampNeg)), (0, .ref 102), (1, .ref q), (2, .int x2), (3, .int x3)] (by decide) rfl dX12_areArguments_9 ?_
  refine q_sub [2, 3, 4, 5, 1, 0] rfl ?_
  exact kX12_areArguments_11 w hq h hQ
set_option maxRecDepth 20000 in
theorem kX12_fits {S : QS} {g : QG} {Q : Option Value → QS → Prop} {q : Nat} {x2 : Int32} {r : Bool × QS} (w : q_Wire S) (hq : q_qok q) (h : fX12_fits S q x2 = some r) (hQ : Q (some (.int (q_b r.1))) r.2) : q_M g mX12_fits 3 0 0 [.ref 102, .ref q, .int x2] S Q := by
  unfold fX12_fits at h
  show q_L g mX12_fits 3 0 0 Q 0 0 0 [(0, .ref 102), (1, .ref q), (2, .int x2)] [] S
  refine q_aload_n 0 rfl rfl dX12_fits_0 ?_
  refine q_aload_n 1 rfl rfl dX12_fits_1 ?_
  refine q_iload_n 2 rfl rfl dX12_fits_2 ?_
  obtain ⟨r1, e2, h⟩ := q_bind h
  refine q_callV (ci := 12) (d := 2) (Mc := mX12_typesAt) (kc := 0) (nc := 0) [.ref q, .int x2] okX12_typesAt (q_sh102 w) (by decide) rfl lmX12_454 inX12_typesAt seX12_typesAt rfl (Nat.le_of_ble_eq_true rfl) (Nat.le_of_ble_eq_true rfl) (Nat.le_refl _) (Nat.le_refl _) dX12_fits_3 (q_L.deep (by decide) (kX12_typesAt (Q := fun r S' => r = none ∧ S' = r1) w hq e2 ⟨rfl, rfl⟩)) (q_kV ?_)
  have fx3 : q_Fx S r1 := q_Fx.tr (q_Fx.rf S) (fxX12_typesAt e2)
  refine q_aload_n 1 rfl rfl dX12_fits_6 ?_
  refine q_getR (q_shQ0 (w.fx fx3) hq) (by decide) (by decide) rfl lfX12_353 dX12_fits_7 (r := (q + 15)) (q_wrQ0_21 (w.fx fx3) hq) ?_
  refine q_iload_n 2 rfl rfl dX12_fits_10 ?_
  obtain ⟨hg4, h⟩ := q_guard h
  refine q_iald (q_shQ15 (w.fx fx3) hq) (q_inb_in hg4) dX12_fits_11 ?_
  refine q_istore_n [(3, .int (r1.2.1 (q + 15) x2.toNatClampNeg)), (0, .ref 102), (1, .ref q), (2, .int x2)] rfl (by decide) rfl dX12_fits_12 ?_
  refine q_aload_n 2 rfl rfl dX12_fits_13 ?_
  refine q_getR (q_shQ0 (w.fx fx3) hq) (by decide) (by decide) rfl lfX12_376 dX12_fits_14 (r := (q + 16)) (q_wrQ0_22 (w.fx fx3) hq) ?_
  refine q_iload_n 3 rfl rfl dX12_fits_17 ?_
  obtain ⟨hg5, h⟩ := q_guard h
  refine q_iald (q_shQ16 (w.fx fx3) hq) (q_inb_in hg5) dX12_fits_18 ?_
  refine q_istore [(4, .int (r1.2.1 (q + 16) x2.toNatClampNeg)), (3, .int (r1.2.1 (q + 15) x2.toNatClampNeg)), (0, .ref 102), (1, .ref q), (2, .int x2)] (by decide) rfl dX12_fits_19 ?_
  refine q_aload_n 3 rfl rfl dX12_fits_21 ?_
  refine q_iload_n 4 rfl rfl dX12_fits_22 ?_
  obtain ⟨r6, e7, h⟩ := q_bind h
  refine q_callS (d := 2) (Mc := mX12_howMany) (kc := 0) (nc := 0) [.ref q, .int x2] okX12_howMany lmX12_427 inX12_howMany rfl (Nat.le_of_ble_eq_true rfl) (Nat.le_of_ble_eq_true rfl) (Nat.le_refl _) (Nat.le_refl _) dX12_fits_23 (q_L.deep (by decide) (kX12_howMany (Q := fun r S' => r = some (.int r6) ∧ S' = r1) (w.fx fx3) hq e7 ⟨rfl, rfl⟩)) (q_kI ?_)
  refine q_istore [(5, .int r6), (4, .int (r1.2.1 (q + 16) x2.toNatClampNeg)), (3, .int (r1.2.1 (q + 15) x2.toNatClampNeg)), (0, .ref 102), (1, .ref q), (2, .int x2)] (by decide) rfl dX12_fits_26 ?_
  refine q_iload 0 rfl dX12_fits_28 ?_
  obtain ⟨v9, hv, h⟩ := q_bind h
  have K1 : q_L g mX12_fits 3 0 0 Q 0 0 48 [(0, .ref 102), (1, .ref q), (2, .int x2), (3, .int (r1.2.1 (q + 15) x2.toNatClampNeg)), (4, .int (r1.2.1 (q + 16) x2.toNatClampNeg)), (5, .int r6)] [.int v9] r1 := by
    refine q_istore [(6, .int v9), (0, .ref 102), (1, .ref q), (2, .int x2), (3, .int (r1.2.1 (q + 15) x2.toNatClampNeg)), (4, .int (r1.2.1 (q + 16) x2.toNatClampNeg)), (5, .int r6)] (by decide) rfl dX12_fits_48 ?_
    refine q_iload 6 rfl dX12_fits_50 ?_
    refine q_iconst (v := (1 : Int32)) (by decide) dX12_fits_52 ?_
    obtain ⟨v11, hv, h⟩ := q_bind h
    have K2 : q_L g mX12_fits 3 0 0 Q 0 0 71 [(0, .ref 102), (1, .ref q), (2, .int x2), (3, .int (r1.2.1 (q + 15) x2.toNatClampNeg)), (4, .int (r1.2.1 (q + 16) x2.toNatClampNeg)), (6, .int v9)] [.int v11] r1 := by
      refine q_istore [(7, .int v11), (0, .ref 102), (1, .ref q), (2, .int x2), (3, .int (r1.2.1 (q + 15) x2.toNatClampNeg)), (4, .int (r1.2.1 (q + 16) x2.toNatClampNeg)), (6, .int v9)] (by decide) rfl dX12_fits_71 ?_
      refine q_iload_n 4 rfl rfl dX12_fits_73 ?_
      by_cases c12 : (r1.2.1 (q + 15) x2.toNatClampNeg) = (2 : Int32)
      · rw [if_pos c12] at h
        refine q_tabIn (M := mX12_fits) (pc := 74) (x := (r1.2.1 (q + 15) x2.toNatClampNeg)) 264 (by rw [c12]; decide) (by rw [c12]; decide) (by rw [c12]; rfl) (by decide) dX12_fits_74 ?_
        refine q_aload_n 1 rfl rfl dX12_fits_264 ?_
        refine q_getR (q_sh102 (w.fx fx3)) (by decide) (by decide) rfl lfX12_61 dX12_fits_265 (r := 171) (q_wr102_22 (w.fx fx3)) ?_
        refine q_iload 5 rfl dX12_fits_268 ?_
        obtain ⟨hg13, h⟩ := q_guard h
        refine q_iald (q_sh171 (w.fx fx3)) (q_inb_in hg13) dX12_fits_270 ?_
        refine q_iconst (v := (2 : Int32)) (by decide) dX12_fits_271 ?_
        refine q_icmp_eq 279 (by decide) dX12_fits_272 (fun c => ?_) (fun c => ?_)
        · rw [if_pos c] at h
          refine q_iconst (v := (0 : Int32)) (by decide) dX12_fits_279 ?_
          obtain rfl := Option.some.inj h
          exact q_iret rfl (by decide) dX12_fits_280 hQ
        · rw [if_neg c] at h
          refine q_iconst (v := (1 : Int32)) (by decide) dX12_fits_275 ?_
          refine q_goto 280 (by decide) dX12_fits_276 ?_
          obtain rfl := Option.some.inj h
          exact q_iret rfl (by decide) dX12_fits_280 hQ
      rw [if_neg c12] at h
      by_cases c14 : (r1.2.1 (q + 15) x2.toNatClampNeg) = (4 : Int32)
      · rw [if_pos c14] at h
        refine q_tabIn (M := mX12_fits) (pc := 74) (x := (r1.2.1 (q + 15) x2.toNatClampNeg)) 281 (by rw [c14]; decide) (by rw [c14]; decide) (by rw [c14]; rfl) (by decide) dX12_fits_74 ?_
        refine q_aload_n 1 rfl rfl dX12_fits_281 ?_
        refine q_getR (q_sh102 (w.fx fx3)) (by decide) (by decide) rfl lfX12_61 dX12_fits_282 (r := 171) (q_wr102_22 (w.fx fx3)) ?_
        refine q_iload 5 rfl dX12_fits_285 ?_
        obtain ⟨hg15, h⟩ := q_guard h
        refine q_iald (q_sh171 (w.fx fx3)) (q_inb_in hg15) dX12_fits_287 ?_
        refine q_if_ne 295 (by decide) dX12_fits_288 (fun c => ?_) (fun c => ?_)
        · rw [if_neg c] at h
          refine q_iconst (v := (0 : Int32)) (by decide) dX12_fits_295 ?_
          obtain rfl := Option.some.inj h
          exact q_iret rfl (by decide) dX12_fits_296 hQ
        · rw [if_pos c] at h
          refine q_iconst (v := (1 : Int32)) (by decide) dX12_fits_291 ?_
          refine q_goto 296 (by decide) dX12_fits_292 ?_
          obtain rfl := Option.some.inj h
          exact q_iret rfl (by decide) dX12_fits_296 hQ
      rw [if_neg c14] at h
      by_cases c16 : (r1.2.1 (q + 15) x2.toNatClampNeg) = (18 : Int32) ∨ (r1.2.1 (q + 15) x2.toNatClampNeg) = (31 : Int32) ∨ (r1.2.1 (q + 15) x2.toNatClampNeg) = (45 : Int32)
      · rw [if_pos c16] at h
        have K : ∀ (hK : True), q_L g mX12_fits 3 0 0 Q 0 0 325 [(7, .int v11), (0, .ref 102), (1, .ref q), (2, .int x2), (3, .int (r1.2.1 (q + 15) x2.toNatClampNeg)), (4, .int (r1.2.1 (q + 16) x2.toNatClampNeg)), (6, .int v9)] [] r1 := by
          intro _
          refine q_iload 6 rfl dX12_fits_325 ?_
          refine q_if_ne 334 (by decide) dX12_fits_327 (fun c => ?_) (fun c => ?_)
          · rw [if_neg c] at h
            refine q_iconst (v := (0 : Int32)) (by decide) dX12_fits_334 ?_
            obtain rfl := Option.some.inj h
            exact q_iret rfl (by decide) dX12_fits_335 hQ
          · rw [if_pos c] at h
            refine q_iconst (v := (1 : Int32)) (by decide) dX12_fits_330 ?_
            refine q_goto 335 (by decide) dX12_fits_331 ?_
            obtain rfl := Option.some.inj h
            exact q_iret rfl (by decide) dX12_fits_335 hQ
        rcases c16 with c16 | c16 | c16
        · exact q_tabIn (M := mX12_fits) (pc := 74) (x := (r1.2.1 (q + 15) x2.toNatClampNeg)) 325 (by rw [c16]; decide) (by rw [c16]; decide) (by rw [c16]; rfl) (by decide) dX12_fits_74 (K trivial)
        · exact q_tabIn (M := mX12_fits) (pc := 74) (x := (r1.2.1 (q + 15) x2.toNatClampNeg)) 325 (by rw [c16]; decide) (by rw [c16]; decide) (by rw [c16]; rfl) (by decide) dX12_fits_74 (K trivial)
        · exact q_tabIn (M := mX12_fits) (pc := 74) (x := (r1.2.1 (q + 15) x2.toNatClampNeg)) 325 (by rw [c16]; decide) (by rw [c16]; decide) (by rw [c16]; rfl) (by decide) dX12_fits_74 (K trivial)
      rw [if_neg c16] at h
      by_cases c17 : (r1.2.1 (q + 15) x2.toNatClampNeg) = (26 : Int32) ∨ (r1.2.1 (q + 15) x2.toNatClampNeg) = (27 : Int32) ∨ (r1.2.1 (q + 15) x2.toNatClampNeg) = (37 : Int32) ∨ (r1.2.1 (q + 15) x2.toNatClampNeg) = (38 : Int32)
      · rw [if_pos c17] at h
        have K : ∀ (hK : True), q_L g mX12_fits 3 0 0 Q 0 0 297 [(7, .int v11), (0, .ref 102), (1, .ref q), (2, .int x2), (3, .int (r1.2.1 (q + 15) x2.toNatClampNeg)), (4, .int (r1.2.1 (q + 16) x2.toNatClampNeg)), (6, .int v9)] [] r1 := by
          intro _
          refine q_iload 6 rfl dX12_fits_297 ?_
          obtain ⟨r18, e19, h⟩ := q_bind h
          refine q_callS (d := 2) (Mc := mX12_isReferenceType) (kc := 0) (nc := 0) [.int v9] okX12_isReferenceType lmX12_473 inX12_isReferenceType rfl (Nat.le_of_ble_eq_true rfl) (Nat.le_of_ble_eq_true rfl) (Nat.le_refl _) (Nat.le_refl _) dX12_fits_299 (q_L.deep (by decide) (kX12_isReferenceType (Q := fun r S' => r = some (.int (q_b r18)) ∧ S' = r1) (w.fx fx3) e19 ⟨rfl, rfl⟩)) (q_kI ?_)
          obtain rfl := Option.some.inj h
          exact q_iret rfl (q_b_nar _) dX12_fits_302 hQ
        rcases c17 with c17 | c17 | c17 | c17
        · exact q_tabIn (M := mX12_fits) (pc := 74) (x := (r1.2.1 (q + 15) x2.toNatClampNeg)) 297 (by rw [c17]; decide) (by rw [c17]; decide) (by rw [c17]; rfl) (by decide) dX12_fits_74 (K trivial)
        · exact q_tabIn (M := mX12_fits) (pc := 74) (x := (r1.2.1 (q + 15) x2.toNatClampNeg)) 297 (by rw [c17]; decide) (by rw [c17]; decide) (by rw [c17]; rfl) (by decide) dX12_fits_74 (K trivial)
        · exact q_tabIn (M := mX12_fits) (pc := 74) (x := (r1.2.1 (q + 15) x2.toNatClampNeg)) 297 (by rw [c17]; decide) (by rw [c17]; decide) (by rw [c17]; rfl) (by decide) dX12_fits_74 (K trivial)
        · exact q_tabIn (M := mX12_fits) (pc := 74) (x := (r1.2.1 (q + 15) x2.toNatClampNeg)) 297 (by rw [c17]; decide) (by rw [c17]; decide) (by rw [c17]; rfl) (by decide) dX12_fits_74 (K trivial)
      rw [if_neg c17] at h
      by_cases c20 : (r1.2.1 (q + 15) x2.toNatClampNeg) = (28 : Int32) ∨ (r1.2.1 (q + 15) x2.toNatClampNeg) = (29 : Int32)
      · rw [if_pos c20] at h
        have K : ∀ (hK : True), q_L g mX12_fits 3 0 0 Q 0 0 303 [(7, .int v11), (0, .ref 102), (1, .ref q), (2, .int x2), (3, .int (r1.2.1 (q + 15) x2.toNatClampNeg)), (4, .int (r1.2.1 (q + 16) x2.toNatClampNeg)), (6, .int v9)] [] r1 := by
          intro _
          refine q_iload 6 rfl dX12_fits_303 ?_
          obtain ⟨r21, e22, h⟩ := q_bind h
          refine q_callS (d := 2) (Mc := mX12_isReferenceType) (kc := 0) (nc := 0) [.int v9] okX12_isReferenceType lmX12_473 inX12_isReferenceType rfl (Nat.le_of_ble_eq_true rfl) (Nat.le_of_ble_eq_true rfl) (Nat.le_refl _) (Nat.le_refl _) dX12_fits_305 (q_L.deep (by decide) (kX12_isReferenceType (Q := fun r S' => r = some (.int (q_b r21)) ∧ S' = r1) (w.fx fx3) e22 ⟨rfl, rfl⟩)) (q_kI ?_)
          refine q_if_eq 323 (by decide) dX12_fits_308 (fun c => ?_) (fun c => ?_)
          · have c := q_b_0.mp c; rw [q_if0 c] at h
            refine q_iconst (v := (0 : Int32)) (by decide) dX12_fits_323 ?_
            obtain rfl := Option.some.inj h
            exact q_iret rfl (by decide) dX12_fits_324 hQ
          · have c := q_b_n.mp c; rw [q_if1 c] at h
            refine q_iload 0 rfl dX12_fits_311 ?_
            obtain ⟨r23, e24, h⟩ := q_bind h
            refine q_callS (d := 2) (Mc := mX12_isReferenceType) (kc := 0) (nc := 0) [.int v11] okX12_isReferenceType lmX12_473 inX12_isReferenceType rfl (Nat.le_of_ble_eq_true rfl) (Nat.le_of_ble_eq_true rfl) (Nat.le_refl _) (Nat.le_refl _) dX12_fits_313 (q_L.deep (by decide) (kX12_isReferenceType (Q := fun r S' => r = some (.int (q_b r23)) ∧ S' = r1) (w.fx fx3) e24 ⟨rfl, rfl⟩)) (q_kI ?_)
            refine q_if_eq 323 (by decide) dX12_fits_316 (fun c => ?_) (fun c => ?_)
            · have c := q_b_0.mp c; rw [q_if0 c] at h
              refine q_iconst (v := (0 : Int32)) (by decide) dX12_fits_323 ?_
              obtain rfl := Option.some.inj h
              exact q_iret rfl (by decide) dX12_fits_324 hQ
            · have c := q_b_n.mp c; rw [q_if1 c] at h
              refine q_iconst (v := (1 : Int32)) (by decide) dX12_fits_319 ?_
              refine q_goto 324 (by decide) dX12_fits_320 ?_
              obtain rfl := Option.some.inj h
              exact q_iret rfl (by decide) dX12_fits_324 hQ
        rcases c20 with c20 | c20
        · exact q_tabIn (M := mX12_fits) (pc := 74) (x := (r1.2.1 (q + 15) x2.toNatClampNeg)) 303 (by rw [c20]; decide) (by rw [c20]; decide) (by rw [c20]; rfl) (by decide) dX12_fits_74 (K trivial)
        · exact q_tabIn (M := mX12_fits) (pc := 74) (x := (r1.2.1 (q + 15) x2.toNatClampNeg)) 303 (by rw [c20]; decide) (by rw [c20]; decide) (by rw [c20]; rfl) (by decide) dX12_fits_74 (K trivial)
      rw [if_neg c20] at h
      by_cases c25 : (r1.2.1 (q + 15) x2.toNatClampNeg) = (32 : Int32)
      · rw [if_pos c25] at h
        refine q_tabIn (M := mX12_fits) (pc := 74) (x := (r1.2.1 (q + 15) x2.toNatClampNeg)) 336 (by rw [c25]; decide) (by rw [c25]; decide) (by rw [c25]; rfl) (by decide) dX12_fits_74 ?_
        refine q_iload 6 rfl dX12_fits_336 ?_
        refine q_iconst (v := (1 : Int32)) (by decide) dX12_fits_338 ?_
        refine q_icmp_eq 350 (by decide) dX12_fits_339 (fun c => ?_) (fun c => ?_)
        · rw [if_pos c] at h
          refine q_iconst (v := (1 : Int32)) (by decide) dX12_fits_350 ?_
          refine q_goto 355 (by decide) dX12_fits_351 ?_
          obtain rfl := Option.some.inj h
          exact q_iret rfl (by decide) dX12_fits_355 hQ
        · rw [if_neg c] at h
          refine q_iload 6 rfl dX12_fits_342 ?_
          obtain ⟨r26, e27, h⟩ := q_bind h
          refine q_callS (d := 2) (Mc := mX12_isArrayType) (kc := 0) (nc := 0) [.int v9] okX12_isArrayType lmX12_476 inX12_isArrayType rfl (Nat.le_of_ble_eq_true rfl) (Nat.le_of_ble_eq_true rfl) (Nat.le_refl _) (Nat.le_refl _) dX12_fits_344 (q_L.deep (by decide) (kX12_isArrayType (Q := fun r S' => r = some (.int (q_b r26)) ∧ S' = r1) (w.fx fx3) e27 ⟨rfl, rfl⟩)) (q_kI ?_)
          refine q_if_eq 354 (by decide) dX12_fits_347 (fun c => ?_) (fun c => ?_)
          · have c := q_b_0.mp c; rw [q_if0 c] at h
            refine q_iconst (v := (0 : Int32)) (by decide) dX12_fits_354 ?_
            obtain rfl := Option.some.inj h
            exact q_iret rfl (by decide) dX12_fits_355 hQ
          · have c := q_b_n.mp c; rw [q_if1 c] at h
            refine q_iconst (v := (1 : Int32)) (by decide) dX12_fits_350 ?_
            refine q_goto 355 (by decide) dX12_fits_351 ?_
            obtain rfl := Option.some.inj h
            exact q_iret rfl (by decide) dX12_fits_355 hQ
      rw [if_neg c25] at h
      by_cases c28 : (r1.2.1 (q + 15) x2.toNatClampNeg) = (33 : Int32)
      · rw [if_pos c28] at h
        refine q_tabIn (M := mX12_fits) (pc := 74) (x := (r1.2.1 (q + 15) x2.toNatClampNeg)) 356 (by rw [c28]; decide) (by rw [c28]; decide) (by rw [c28]; rfl) (by decide) dX12_fits_74 ?_
        refine q_iload 6 rfl dX12_fits_356 ?_
        refine q_if_ne 379 (by decide) dX12_fits_358 (fun c => ?_) (fun c => ?_)
        · rw [if_neg c] at h
          refine q_iconst (v := (0 : Int32)) (by decide) dX12_fits_379 ?_
          obtain rfl := Option.some.inj h
          exact q_iret rfl (by decide) dX12_fits_380 hQ
        · rw [if_pos c] at h
          refine q_iload 0 rfl dX12_fits_361 ?_
          refine q_iconst (v := (1 : Int32)) (by decide) dX12_fits_363 ?_
          refine q_icmp_eq 375 (by decide) dX12_fits_364 (fun c => ?_) (fun c => ?_)
          · rw [if_pos c] at h
            refine q_iconst (v := (1 : Int32)) (by decide) dX12_fits_375 ?_
            refine q_goto 380 (by decide) dX12_fits_376 ?_
            obtain rfl := Option.some.inj h
            exact q_iret rfl (by decide) dX12_fits_380 hQ
          · rw [if_neg c] at h
            refine q_iload 0 rfl dX12_fits_367 ?_
            obtain ⟨r29, e30, h⟩ := q_bind h
            refine q_callS (d := 2) (Mc := mX12_isArrayType) (kc := 0) (nc := 0) [.int v11] okX12_isArrayType lmX12_476 inX12_isArrayType rfl (Nat.le_of_ble_eq_true rfl) (Nat.le_of_ble_eq_true rfl) (Nat.le_refl _) (Nat.le_refl _) dX12_fits_369 (q_L.deep (by decide) (kX12_isArrayType (Q := fun r S' => r = some (.int (q_b r29)) ∧ S' = r1) (w.fx fx3) e30 ⟨rfl, rfl⟩)) (q_kI ?_)
            refine q_if_eq 379 (by decide) dX12_fits_372 (fun c => ?_) (fun c => ?_)
            · have c := q_b_0.mp c; rw [q_if0 c] at h
              refine q_iconst (v := (0 : Int32)) (by decide) dX12_fits_379 ?_
              obtain rfl := Option.some.inj h
              exact q_iret rfl (by decide) dX12_fits_380 hQ
            · have c := q_b_n.mp c; rw [q_if1 c] at h
              refine q_iconst (v := (1 : Int32)) (by decide) dX12_fits_375 ?_
              refine q_goto 380 (by decide) dX12_fits_376 ?_
              obtain rfl := Option.some.inj h
              exact q_iret rfl (by decide) dX12_fits_380 hQ
      rw [if_neg c28] at h
      by_cases c31 : (r1.2.1 (q + 15) x2.toNatClampNeg) = (34 : Int32)
      · rw [if_pos c31] at h
        refine q_tabIn (M := mX12_fits) (pc := 74) (x := (r1.2.1 (q + 15) x2.toNatClampNeg)) 381 (by rw [c31]; decide) (by rw [c31]; decide) (by rw [c31]; rfl) (by decide) dX12_fits_74 ?_
        refine q_iload 0 rfl dX12_fits_381 ?_
        refine q_if_ne 410 (by decide) dX12_fits_383 (fun c => ?_) (fun c => ?_)
        · rw [if_neg c] at h
          refine q_iconst (v := (0 : Int32)) (by decide) dX12_fits_410 ?_
          obtain rfl := Option.some.inj h
          exact q_iret rfl (by decide) dX12_fits_411 hQ
        · rw [if_pos c] at h
          refine q_aload_n 2 rfl rfl dX12_fits_386 ?_
          refine q_aload_n 1 rfl rfl dX12_fits_387 ?_
          refine q_getR (q_sh102 (w.fx fx3)) (by decide) (by decide) rfl lfX12_61 dX12_fits_388 (r := 171) (q_wr102_22 (w.fx fx3)) ?_
          refine q_aload_n 1 rfl rfl dX12_fits_391 ?_
          refine q_getI (q_sh102 (w.fx fx3)) (by decide) (by decide) rfl lfX12_451 dX12_fits_392 ?_
          refine q_iconst (v := (3 : Int32)) (by decide) dX12_fits_395 ?_
          refine q_isub dX12_fits_396 ?_
          obtain ⟨hg32, h⟩ := q_guard h
          refine q_iald (q_sh171 (w.fx fx3)) (q_inb_in hg32) dX12_fits_397 ?_
          refine q_iload 6 rfl dX12_fits_398 ?_
          obtain ⟨r33, e34, h⟩ := q_bind h
          refine q_callS (d := 2) (Mc := mX12_isElement) (kc := 0) (nc := 0) [.ref q, .int (r1.2.1 171 ((r1.2.1 102 23) - (3 : Int32)).toNatClampNeg), .int v9] okX12_isElement lmX12_479 inX12_isElement rfl (Nat.le_of_ble_eq_true rfl) (Nat.le_of_ble_eq_true rfl) (Nat.le_refl _) (Nat.le_refl _) dX12_fits_400 (q_L.deep (by decide) (kX12_isElement (Q := fun r S' => r = some (.int (q_b r33)) ∧ S' = r1) (w.fx fx3) hq e34 ⟨rfl, rfl⟩)) (q_kI ?_)
          refine q_if_eq 410 (by decide) dX12_fits_403 (fun c => ?_) (fun c => ?_)
          · have c := q_b_0.mp c; rw [q_if0 c] at h
            refine q_iconst (v := (0 : Int32)) (by decide) dX12_fits_410 ?_
            obtain rfl := Option.some.inj h
            exact q_iret rfl (by decide) dX12_fits_411 hQ
          · have c := q_b_n.mp c; rw [q_if1 c] at h
            refine q_iconst (v := (1 : Int32)) (by decide) dX12_fits_406 ?_
            refine q_goto 411 (by decide) dX12_fits_407 ?_
            obtain rfl := Option.some.inj h
            exact q_iret rfl (by decide) dX12_fits_411 hQ
      rw [if_neg c31] at h
      by_cases c35 : (r1.2.1 (q + 15) x2.toNatClampNeg) = (35 : Int32)
      · rw [if_pos c35] at h
        refine q_tabIn (M := mX12_fits) (pc := 74) (x := (r1.2.1 (q + 15) x2.toNatClampNeg)) 412 (by rw [c35]; decide) (by rw [c35]; decide) (by rw [c35]; rfl) (by decide) dX12_fits_74 ?_
        refine q_aload_n 2 rfl rfl dX12_fits_412 ?_
        refine q_iload 6 rfl dX12_fits_413 ?_
        refine q_bipush (v := (8 : Int32)) (by decide) dX12_fits_415 ?_
        refine q_aload_n 2 rfl rfl dX12_fits_417 ?_
        refine q_getR (q_shQ0 (w.fx fx3) hq) (by decide) (by decide) rfl lfX12_379 dX12_fits_418 (r := (q + 17)) (q_wrQ0_23 (w.fx fx3) hq) ?_
        refine q_iload_n 3 rfl rfl dX12_fits_421 ?_
        obtain ⟨hg36, h⟩ := q_guard h
        refine q_iald (q_shQ17 (w.fx fx3) hq) (q_inb_in hg36) dX12_fits_422 ?_
        refine q_iadd dX12_fits_423 ?_
        obtain ⟨r37, e38, h⟩ := q_bind h
        refine q_callS (d := 2) (Mc := mX12_isBelow) (kc := 0) (nc := 0) [.ref q, .int v9, .int ((8 : Int32) + (r1.2.1 (q + 17) x2.toNatClampNeg))] okX12_isBelow lmX12_436 inX12_isBelow rfl (Nat.le_of_ble_eq_true rfl) (Nat.le_of_ble_eq_true rfl) (Nat.le_refl _) (Nat.le_refl _) dX12_fits_424 (q_L.deep (by decide) (kX12_isBelow (Q := fun r S' => r = some (.int (q_b r37)) ∧ S' = r1) (w.fx fx3) hq e38 ⟨rfl, rfl⟩)) (q_kI ?_)
        obtain rfl := Option.some.inj h
        exact q_iret rfl (q_b_nar _) dX12_fits_427 hQ
      rw [if_neg c35] at h
      by_cases c39 : (r1.2.1 (q + 15) x2.toNatClampNeg) = (36 : Int32)
      · rw [if_pos c39] at h
        refine q_tabIn (M := mX12_fits) (pc := 74) (x := (r1.2.1 (q + 15) x2.toNatClampNeg)) 428 (by rw [c39]; decide) (by rw [c39]; decide) (by rw [c39]; rfl) (by decide) dX12_fits_74 ?_
        refine q_aload_n 2 rfl rfl dX12_fits_428 ?_
        refine q_iload 0 rfl dX12_fits_429 ?_
        refine q_bipush (v := (8 : Int32)) (by decide) dX12_fits_431 ?_
        refine q_aload_n 2 rfl rfl dX12_fits_433 ?_
        refine q_getR (q_shQ0 (w.fx fx3) hq) (by decide) (by decide) rfl lfX12_379 dX12_fits_434 (r := (q + 17)) (q_wrQ0_23 (w.fx fx3) hq) ?_
        refine q_iload_n 3 rfl rfl dX12_fits_437 ?_
        obtain ⟨hg40, h⟩ := q_guard h
        refine q_iald (q_shQ17 (w.fx fx3) hq) (q_inb_in hg40) dX12_fits_438 ?_
        refine q_iadd dX12_fits_439 ?_
        obtain ⟨r41, e42, h⟩ := q_bind h
        refine q_callS (d := 2) (Mc := mX12_isBelow) (kc := 0) (nc := 0) [.ref q, .int v11, .int ((8 : Int32) + (r1.2.1 (q + 17) x2.toNatClampNeg))] okX12_isBelow lmX12_436 inX12_isBelow rfl (Nat.le_of_ble_eq_true rfl) (Nat.le_of_ble_eq_true rfl) (Nat.le_refl _) (Nat.le_refl _) dX12_fits_440 (q_L.deep (by decide) (kX12_isBelow (Q := fun r S' => r = some (.int (q_b r41)) ∧ S' = r1) (w.fx fx3) hq e42 ⟨rfl, rfl⟩)) (q_kI ?_)
        refine q_if_eq 466 (by decide) dX12_fits_443 (fun c => ?_) (fun c => ?_)
        · have c := q_b_0.mp c; rw [q_if0 c] at h
          refine q_iconst (v := (0 : Int32)) (by decide) dX12_fits_466 ?_
          obtain rfl := Option.some.inj h
          exact q_iret rfl (by decide) dX12_fits_467 hQ
        · have c := q_b_n.mp c; rw [q_if1 c] at h
          refine q_aload_n 2 rfl rfl dX12_fits_446 ?_
          refine q_iload 6 rfl dX12_fits_447 ?_
          refine q_aload_n 2 rfl rfl dX12_fits_449 ?_
          refine q_getR (q_shQ0 (w.fx fx3) hq) (by decide) (by decide) rfl lfX12_288 dX12_fits_450 (r := (q + 4)) (q_wrQ0_10 (w.fx fx3) hq) ?_
          refine q_iload 5 rfl dX12_fits_453 ?_
          obtain ⟨hg43, h⟩ := q_guard h
          refine q_iald (q_shQ4 (w.fx fx3) hq) (q_inb_in hg43) dX12_fits_455 ?_
          obtain ⟨r44, e45, h⟩ := q_bind h
          refine q_callS (d := 2) (Mc := mX12_isBelow) (kc := 0) (nc := 0) [.ref q, .int v9, .int (r1.2.1 (q + 4) (r1.2.1 (q + 16) x2.toNatClampNeg).toNatClampNeg)] okX12_isBelow lmX12_436 inX12_isBelow rfl (Nat.le_of_ble_eq_true rfl) (Nat.le_of_ble_eq_true rfl) (Nat.le_refl _) (Nat.le_refl _) dX12_fits_456 (q_L.deep (by decide) (kX12_isBelow (Q := fun r S' => r = some (.int (q_b r44)) ∧ S' = r1) (w.fx fx3) hq e45 ⟨rfl, rfl⟩)) (q_kI ?_)
          refine q_if_eq 466 (by decide) dX12_fits_459 (fun c => ?_) (fun c => ?_)
          · have c := q_b_0.mp c; rw [q_if0 c] at h
            refine q_iconst (v := (0 : Int32)) (by decide) dX12_fits_466 ?_
            obtain rfl := Option.some.inj h
            exact q_iret rfl (by decide) dX12_fits_467 hQ
          · have c := q_b_n.mp c; rw [q_if1 c] at h
            refine q_iconst (v := (1 : Int32)) (by decide) dX12_fits_462 ?_
            refine q_goto 467 (by decide) dX12_fits_463 ?_
            obtain rfl := Option.some.inj h
            exact q_iret rfl (by decide) dX12_fits_467 hQ
      rw [if_neg c39] at h
      by_cases c46 : (r1.2.1 (q + 15) x2.toNatClampNeg) = (39 : Int32) ∨ (r1.2.1 (q + 15) x2.toNatClampNeg) = (40 : Int32)
      · rw [if_pos c46] at h
        have K : ∀ (hK : True), q_L g mX12_fits 3 0 0 Q 0 0 468 [(7, .int v11), (0, .ref 102), (1, .ref q), (2, .int x2), (3, .int (r1.2.1 (q + 15) x2.toNatClampNeg)), (4, .int (r1.2.1 (q + 16) x2.toNatClampNeg)), (6, .int v9)] [] r1 := by
          intro _
          refine q_aload_n 1 rfl rfl dX12_fits_468 ?_
          refine q_aload_n 2 rfl rfl dX12_fits_469 ?_
          refine q_iload_n 3 rfl rfl dX12_fits_470 ?_
          refine q_iload 5 rfl dX12_fits_471 ?_
          obtain ⟨r47, e48, h⟩ := q_bind h
          refine q_callV (ci := 12) (d := 2) (Mc := mX12_areArguments) (kc := 0) (nc := 0) [.ref q, .int x2, .int (r1.2.1 (q + 16) x2.toNatClampNeg)] okX12_areArguments (q_sh102 (w.fx fx3)) (by decide) rfl lmX12_482 inX12_areArguments seX12_areArguments rfl (Nat.le_of_ble_eq_true rfl) (Nat.le_of_ble_eq_true rfl) (Nat.le_refl _) (Nat.le_refl _) dX12_fits_473 (q_L.deep (by decide) (kX12_areArguments (Q := fun r S' => r = some (.int (q_b r47)) ∧ S' = r1) (w.fx fx3) hq e48 ⟨rfl, rfl⟩)) (q_kI ?_)
          obtain rfl := Option.some.inj h
          exact q_iret rfl (q_b_nar _) dX12_fits_476 hQ
        rcases c46 with c46 | c46
        · exact q_tabIn (M := mX12_fits) (pc := 74) (x := (r1.2.1 (q + 15) x2.toNatClampNeg)) 468 (by rw [c46]; decide) (by rw [c46]; decide) (by rw [c46]; rfl) (by decide) dX12_fits_74 (K trivial)
        · exact q_tabIn (M := mX12_fits) (pc := 74) (x := (r1.2.1 (q + 15) x2.toNatClampNeg)) 468 (by rw [c46]; decide) (by rw [c46]; decide) (by rw [c46]; rfl) (by decide) dX12_fits_74 (K trivial)
      rw [if_neg c46] at h
      by_cases c49 : (r1.2.1 (q + 15) x2.toNatClampNeg) = (41 : Int32)
      · rw [if_pos c49] at h
        refine q_tabIn (M := mX12_fits) (pc := 74) (x := (r1.2.1 (q + 15) x2.toNatClampNeg)) 477 (by rw [c49]; decide) (by rw [c49]; decide) (by rw [c49]; rfl) (by decide) dX12_fits_74 ?_
        refine q_aload_n 2 rfl rfl dX12_fits_477 ?_
        refine q_iload 6 rfl dX12_fits_478 ?_
        refine q_bipush (v := (9 : Int32)) (by decide) dX12_fits_480 ?_
        obtain ⟨r50, e51, h⟩ := q_bind h
        refine q_callS (d := 2) (Mc := mX12_isBelow) (kc := 0) (nc := 0) [.ref q, .int v9, .int (9 : Int32)] okX12_isBelow lmX12_436 inX12_isBelow rfl (Nat.le_of_ble_eq_true rfl) (Nat.le_of_ble_eq_true rfl) (Nat.le_refl _) (Nat.le_refl _) dX12_fits_482 (q_L.deep (by decide) (kX12_isBelow (Q := fun r S' => r = some (.int (q_b r50)) ∧ S' = r1) (w.fx fx3) hq e51 ⟨rfl, rfl⟩)) (q_kI ?_)
        obtain rfl := Option.some.inj h
        exact q_iret rfl (q_b_nar _) dX12_fits_485 hQ
      rw [if_neg c49] at h
      by_cases c52 : (r1.2.1 (q + 15) x2.toNatClampNeg) = (42 : Int32)
      · rw [if_pos c52] at h
        refine q_tabIn (M := mX12_fits) (pc := 74) (x := (r1.2.1 (q + 15) x2.toNatClampNeg)) 486 (by rw [c52]; decide) (by rw [c52]; decide) (by rw [c52]; rfl) (by decide) dX12_fits_74 ?_
        refine q_aload_n 2 rfl rfl dX12_fits_486 ?_
        refine q_getR (q_shQ0 (w.fx fx3) hq) (by decide) (by decide) rfl lfX12_308 dX12_fits_487 (r := (q + 10)) (q_wrQ0_16 (w.fx fx3) hq) ?_
        refine q_aload_n 2 rfl rfl dX12_fits_490 ?_
        refine q_getR (q_shQ0 (w.fx fx3) hq) (by decide) (by decide) rfl lfX12_374 dX12_fits_491 (r := (q + 18)) (q_wrQ0_24 (w.fx fx3) hq) ?_
        refine q_iload_n 3 rfl rfl dX12_fits_494 ?_
        obtain ⟨hg53, h⟩ := q_guard h
        refine q_iald (q_shQ18 (w.fx fx3) hq) (q_inb_in hg53) dX12_fits_495 ?_
        obtain ⟨hg54, h⟩ := q_guard h
        refine q_iald (q_shQ10 (w.fx fx3) hq) (q_inb_in hg54) dX12_fits_496 ?_
        refine q_iconst (v := (-1 : Int32)) (by decide) dX12_fits_497 ?_
        refine q_icmp_eq 525 (by decide) dX12_fits_498 (fun c => ?_) (fun c => ?_)
        · rw [if_pos c] at h
          refine q_iconst (v := (0 : Int32)) (by decide) dX12_fits_525 ?_
          obtain rfl := Option.some.inj h
          exact q_iret rfl (by decide) dX12_fits_526 hQ
        · rw [if_neg c] at h
          refine q_aload_n 2 rfl rfl dX12_fits_501 ?_
          refine q_iload 6 rfl dX12_fits_502 ?_
          refine q_aload_n 2 rfl rfl dX12_fits_504 ?_
          refine q_getR (q_shQ0 (w.fx fx3) hq) (by decide) (by decide) rfl lfX12_308 dX12_fits_505 (r := (q + 10)) (q_wrQ0_16 (w.fx fx3) hq) ?_
          refine q_aload_n 2 rfl rfl dX12_fits_508 ?_
          refine q_getR (q_shQ0 (w.fx fx3) hq) (by decide) (by decide) rfl lfX12_374 dX12_fits_509 (r := (q + 18)) (q_wrQ0_24 (w.fx fx3) hq) ?_
          refine q_iload_n 3 rfl rfl dX12_fits_512 ?_
          obtain ⟨hg55, h⟩ := q_guard h
          refine q_iald (q_shQ18 (w.fx fx3) hq) (q_inb_in hg55) dX12_fits_513 ?_
          obtain ⟨hg56, h⟩ := q_guard h
          refine q_iald (q_shQ10 (w.fx fx3) hq) (q_inb_in hg56) dX12_fits_514 ?_
          obtain ⟨r57, e58, h⟩ := q_bind h
          refine q_callS (d := 2) (Mc := mX12_isBelow) (kc := 0) (nc := 0) [.ref q, .int v9, .int (r1.2.1 (q + 10) (r1.2.1 (q + 18) x2.toNatClampNeg).toNatClampNeg)] okX12_isBelow lmX12_436 inX12_isBelow rfl (Nat.le_of_ble_eq_true rfl) (Nat.le_of_ble_eq_true rfl) (Nat.le_refl _) (Nat.le_refl _) dX12_fits_515 (q_L.deep (by decide) (kX12_isBelow (Q := fun r S' => r = some (.int (q_b r57)) ∧ S' = r1) (w.fx fx3) hq e58 ⟨rfl, rfl⟩)) (q_kI ?_)
          refine q_if_eq 525 (by decide) dX12_fits_518 (fun c => ?_) (fun c => ?_)
          · have c := q_b_0.mp c; rw [q_if0 c] at h
            refine q_iconst (v := (0 : Int32)) (by decide) dX12_fits_525 ?_
            obtain rfl := Option.some.inj h
            exact q_iret rfl (by decide) dX12_fits_526 hQ
          · have c := q_b_n.mp c; rw [q_if1 c] at h
            refine q_iconst (v := (1 : Int32)) (by decide) dX12_fits_521 ?_
            refine q_goto 526 (by decide) dX12_fits_522 ?_
            obtain rfl := Option.some.inj h
            exact q_iret rfl (by decide) dX12_fits_526 hQ
      rw [if_neg c52] at h
      by_cases c59 : (r1.2.1 (q + 15) x2.toNatClampNeg) = (43 : Int32)
      · rw [if_pos c59] at h
        refine q_tabIn (M := mX12_fits) (pc := 74) (x := (r1.2.1 (q + 15) x2.toNatClampNeg)) 527 (by rw [c59]; decide) (by rw [c59]; decide) (by rw [c59]; rfl) (by decide) dX12_fits_74 ?_
        refine q_aload_n 2 rfl rfl dX12_fits_527 ?_
        refine q_getR (q_shQ0 (w.fx fx3) hq) (by decide) (by decide) rfl lfX12_308 dX12_fits_528 (r := (q + 10)) (q_wrQ0_16 (w.fx fx3) hq) ?_
        refine q_aload_n 2 rfl rfl dX12_fits_531 ?_
        refine q_getR (q_shQ0 (w.fx fx3) hq) (by decide) (by decide) rfl lfX12_374 dX12_fits_532 (r := (q + 18)) (q_wrQ0_24 (w.fx fx3) hq) ?_
        refine q_iload_n 3 rfl rfl dX12_fits_535 ?_
        obtain ⟨hg60, h⟩ := q_guard h
        refine q_iald (q_shQ18 (w.fx fx3) hq) (q_inb_in hg60) dX12_fits_536 ?_
        obtain ⟨hg61, h⟩ := q_guard h
        refine q_iald (q_shQ10 (w.fx fx3) hq) (q_inb_in hg61) dX12_fits_537 ?_
        refine q_iconst (v := (-1 : Int32)) (by decide) dX12_fits_538 ?_
        refine q_icmp_ne 546 (by decide) dX12_fits_539 (fun c => ?_) (fun c => ?_)
        · rw [if_neg c] at h
          refine q_iconst (v := (0 : Int32)) (by decide) dX12_fits_546 ?_
          obtain rfl := Option.some.inj h
          exact q_iret rfl (by decide) dX12_fits_547 hQ
        · rw [if_pos c] at h
          refine q_iconst (v := (1 : Int32)) (by decide) dX12_fits_542 ?_
          refine q_goto 547 (by decide) dX12_fits_543 ?_
          obtain rfl := Option.some.inj h
          exact q_iret rfl (by decide) dX12_fits_547 hQ
      rw [if_neg c59] at h
      have n62 : ¬ (r1.2.1 (q + 15) x2.toNatClampNeg) = (18 : Int32) := (fun q => c16 (Or.inl q))
      have n63 : ¬ (r1.2.1 (q + 15) x2.toNatClampNeg) = (31 : Int32) := (fun q => c16 (Or.inr (Or.inl q)))
      have n64 : ¬ (r1.2.1 (q + 15) x2.toNatClampNeg) = (45 : Int32) := (fun q => c16 (Or.inr (Or.inr (q))))
      have n65 : ¬ (r1.2.1 (q + 15) x2.toNatClampNeg) = (26 : Int32) := (fun q => c17 (Or.inl q))
      have n66 : ¬ (r1.2.1 (q + 15) x2.toNatClampNeg) = (27 : Int32) := (fun q => c17 (Or.inr (Or.inl q)))
      have n67 : ¬ (r1.2.1 (q + 15) x2.toNatClampNeg) = (37 : Int32) := (fun q => c17 (Or.inr (Or.inr (Or.inl q))))
      have n68 : ¬ (r1.2.1 (q + 15) x2.toNatClampNeg) = (38 : Int32) := (fun q => c17 (Or.inr (Or.inr (Or.inr (q)))))
      have n69 : ¬ (r1.2.1 (q + 15) x2.toNatClampNeg) = (28 : Int32) := (fun q => c20 (Or.inl q))
      have n70 : ¬ (r1.2.1 (q + 15) x2.toNatClampNeg) = (29 : Int32) := (fun q => c20 (Or.inr (q)))
      have n71 : ¬ (r1.2.1 (q + 15) x2.toNatClampNeg) = (39 : Int32) := (fun q => c46 (Or.inl q))
      have n72 : ¬ (r1.2.1 (q + 15) x2.toNatClampNeg) = (40 : Int32) := (fun q => c46 (Or.inr (q)))
      have K : ∀ (hK : True), q_L g mX12_fits 3 0 0 Q 0 0 548 [(7, .int v11), (0, .ref 102), (1, .ref q), (2, .int x2), (3, .int (r1.2.1 (q + 15) x2.toNatClampNeg)), (4, .int (r1.2.1 (q + 16) x2.toNatClampNeg)), (6, .int v9)] [] r1 := by
        intro _
        refine q_iload_n 4 rfl rfl dX12_fits_548 ?_
        refine q_bipush (v := (8 : Int32)) (by decide) dX12_fits_549 ?_
        refine q_icmp_lt 560 (by decide) dX12_fits_551 (fun c => ?_) (fun c => ?_)
        · rw [if_pos c] at h
          refine q_iload_n 4 rfl rfl dX12_fits_560 ?_
          refine q_bipush (v := (20 : Int32)) (by decide) dX12_fits_561 ?_
          refine q_icmp_lt 582 (by decide) dX12_fits_563 (fun c => ?_) (fun c => ?_)
          · rw [if_pos c] at h
            refine q_iconst (v := (1 : Int32)) (by decide) dX12_fits_582 ?_
            refine q_goto 587 (by decide) dX12_fits_583 ?_
            obtain rfl := Option.some.inj h
            exact q_iret rfl (by decide) dX12_fits_587 hQ
          · rw [if_neg c] at h
            refine q_iload_n 4 rfl rfl dX12_fits_566 ?_
            refine q_bipush (v := (25 : Int32)) (by decide) dX12_fits_567 ?_
            refine q_icmp_gt 582 (by decide) dX12_fits_569 (fun c => ?_) (fun c => ?_)
            · rw [if_pos c] at h
              refine q_iconst (v := (1 : Int32)) (by decide) dX12_fits_582 ?_
              refine q_goto 587 (by decide) dX12_fits_583 ?_
              obtain rfl := Option.some.inj h
              exact q_iret rfl (by decide) dX12_fits_587 hQ
            · rw [if_neg c] at h
              refine q_iload 6 rfl dX12_fits_572 ?_
              refine q_if_ne 586 (by decide) dX12_fits_574 (fun c => ?_) (fun c => ?_)
              · rw [if_neg c] at h
                refine q_iconst (v := (0 : Int32)) (by decide) dX12_fits_586 ?_
                obtain rfl := Option.some.inj h
                exact q_iret rfl (by decide) dX12_fits_587 hQ
              · rw [if_pos c] at h
                refine q_iload 0 rfl dX12_fits_577 ?_
                refine q_if_ne 586 (by decide) dX12_fits_579 (fun c => ?_) (fun c => ?_)
                · rw [if_neg c] at h
                  refine q_iconst (v := (0 : Int32)) (by decide) dX12_fits_586 ?_
                  obtain rfl := Option.some.inj h
                  exact q_iret rfl (by decide) dX12_fits_587 hQ
                · rw [if_pos c] at h
                  refine q_iconst (v := (1 : Int32)) (by decide) dX12_fits_582 ?_
                  refine q_goto 587 (by decide) dX12_fits_583 ?_
                  obtain rfl := Option.some.inj h
                  exact q_iret rfl (by decide) dX12_fits_587 hQ
        · rw [if_neg c] at h
          refine q_iload_n 4 rfl rfl dX12_fits_554 ?_
          refine q_bipush (v := (17 : Int32)) (by decide) dX12_fits_555 ?_
          refine q_icmp_le 572 (by decide) dX12_fits_557 (fun c => ?_) (fun c => ?_)
          · rw [if_pos c] at h
            refine q_iload 6 rfl dX12_fits_572 ?_
            refine q_if_ne 586 (by decide) dX12_fits_574 (fun c => ?_) (fun c => ?_)
            · rw [if_neg c] at h
              refine q_iconst (v := (0 : Int32)) (by decide) dX12_fits_586 ?_
              obtain rfl := Option.some.inj h
              exact q_iret rfl (by decide) dX12_fits_587 hQ
            · rw [if_pos c] at h
              refine q_iload 0 rfl dX12_fits_577 ?_
              refine q_if_ne 586 (by decide) dX12_fits_579 (fun c => ?_) (fun c => ?_)
              · rw [if_neg c] at h
                refine q_iconst (v := (0 : Int32)) (by decide) dX12_fits_586 ?_
                obtain rfl := Option.some.inj h
                exact q_iret rfl (by decide) dX12_fits_587 hQ
              · rw [if_pos c] at h
                refine q_iconst (v := (1 : Int32)) (by decide) dX12_fits_582 ?_
                refine q_goto 587 (by decide) dX12_fits_583 ?_
                obtain rfl := Option.some.inj h
                exact q_iret rfl (by decide) dX12_fits_587 hQ
          · rw [if_neg c] at h
            refine q_iload_n 4 rfl rfl dX12_fits_560 ?_
            refine q_bipush (v := (20 : Int32)) (by decide) dX12_fits_561 ?_
            refine q_icmp_lt 582 (by decide) dX12_fits_563 (fun c => ?_) (fun c => ?_)
            · rw [if_pos c] at h
              refine q_iconst (v := (1 : Int32)) (by decide) dX12_fits_582 ?_
              refine q_goto 587 (by decide) dX12_fits_583 ?_
              obtain rfl := Option.some.inj h
              exact q_iret rfl (by decide) dX12_fits_587 hQ
            · rw [if_neg c] at h
              refine q_iload_n 4 rfl rfl dX12_fits_566 ?_
              refine q_bipush (v := (25 : Int32)) (by decide) dX12_fits_567 ?_
              refine q_icmp_gt 582 (by decide) dX12_fits_569 (fun c => ?_) (fun c => ?_)
              · rw [if_pos c] at h
                refine q_iconst (v := (1 : Int32)) (by decide) dX12_fits_582 ?_
                refine q_goto 587 (by decide) dX12_fits_583 ?_
                obtain rfl := Option.some.inj h
                exact q_iret rfl (by decide) dX12_fits_587 hQ
              · rw [if_neg c] at h
                refine q_iload 6 rfl dX12_fits_572 ?_
                refine q_if_ne 586 (by decide) dX12_fits_574 (fun c => ?_) (fun c => ?_)
                · rw [if_neg c] at h
                  refine q_iconst (v := (0 : Int32)) (by decide) dX12_fits_586 ?_
                  obtain rfl := Option.some.inj h
                  exact q_iret rfl (by decide) dX12_fits_587 hQ
                · rw [if_pos c] at h
                  refine q_iload 0 rfl dX12_fits_577 ?_
                  refine q_if_ne 586 (by decide) dX12_fits_579 (fun c => ?_) (fun c => ?_)
                  · rw [if_neg c] at h
                    refine q_iconst (v := (0 : Int32)) (by decide) dX12_fits_586 ?_
                    obtain rfl := Option.some.inj h
                    exact q_iret rfl (by decide) dX12_fits_587 hQ
                  · rw [if_pos c] at h
                    refine q_iconst (v := (1 : Int32)) (by decide) dX12_fits_582 ?_
                    refine q_goto 587 (by decide) dX12_fits_583 ?_
                    obtain rfl := Option.some.inj h
                    exact q_iret rfl (by decide) dX12_fits_587 hQ
      by_cases n73 : (r1.2.1 (q + 15) x2.toNatClampNeg) = (3 : Int32)
      · exact q_tabIn (M := mX12_fits) (pc := 74) (x := (r1.2.1 (q + 15) x2.toNatClampNeg)) 548 (by rw [n73]; decide) (by rw [n73]; decide) (by rw [n73]; rfl) (by decide) dX12_fits_74 (K trivial)
      by_cases n74 : (r1.2.1 (q + 15) x2.toNatClampNeg) = (5 : Int32)
      · exact q_tabIn (M := mX12_fits) (pc := 74) (x := (r1.2.1 (q + 15) x2.toNatClampNeg)) 548 (by rw [n74]; decide) (by rw [n74]; decide) (by rw [n74]; rfl) (by decide) dX12_fits_74 (K trivial)
      by_cases n75 : (r1.2.1 (q + 15) x2.toNatClampNeg) = (6 : Int32)
      · exact q_tabIn (M := mX12_fits) (pc := 74) (x := (r1.2.1 (q + 15) x2.toNatClampNeg)) 548 (by rw [n75]; decide) (by rw [n75]; decide) (by rw [n75]; rfl) (by decide) dX12_fits_74 (K trivial)
      by_cases n76 : (r1.2.1 (q + 15) x2.toNatClampNeg) = (7 : Int32)
      · exact q_tabIn (M := mX12_fits) (pc := 74) (x := (r1.2.1 (q + 15) x2.toNatClampNeg)) 548 (by rw [n76]; decide) (by rw [n76]; decide) (by rw [n76]; rfl) (by decide) dX12_fits_74 (K trivial)
      by_cases n77 : (r1.2.1 (q + 15) x2.toNatClampNeg) = (8 : Int32)
      · exact q_tabIn (M := mX12_fits) (pc := 74) (x := (r1.2.1 (q + 15) x2.toNatClampNeg)) 548 (by rw [n77]; decide) (by rw [n77]; decide) (by rw [n77]; rfl) (by decide) dX12_fits_74 (K trivial)
      by_cases n78 : (r1.2.1 (q + 15) x2.toNatClampNeg) = (9 : Int32)
      · exact q_tabIn (M := mX12_fits) (pc := 74) (x := (r1.2.1 (q + 15) x2.toNatClampNeg)) 548 (by rw [n78]; decide) (by rw [n78]; decide) (by rw [n78]; rfl) (by decide) dX12_fits_74 (K trivial)
      by_cases n79 : (r1.2.1 (q + 15) x2.toNatClampNeg) = (10 : Int32)
      · exact q_tabIn (M := mX12_fits) (pc := 74) (x := (r1.2.1 (q + 15) x2.toNatClampNeg)) 548 (by rw [n79]; decide) (by rw [n79]; decide) (by rw [n79]; rfl) (by decide) dX12_fits_74 (K trivial)
      by_cases n80 : (r1.2.1 (q + 15) x2.toNatClampNeg) = (11 : Int32)
      · exact q_tabIn (M := mX12_fits) (pc := 74) (x := (r1.2.1 (q + 15) x2.toNatClampNeg)) 548 (by rw [n80]; decide) (by rw [n80]; decide) (by rw [n80]; rfl) (by decide) dX12_fits_74 (K trivial)
      by_cases n81 : (r1.2.1 (q + 15) x2.toNatClampNeg) = (12 : Int32)
      · exact q_tabIn (M := mX12_fits) (pc := 74) (x := (r1.2.1 (q + 15) x2.toNatClampNeg)) 548 (by rw [n81]; decide) (by rw [n81]; decide) (by rw [n81]; rfl) (by decide) dX12_fits_74 (K trivial)
      by_cases n82 : (r1.2.1 (q + 15) x2.toNatClampNeg) = (13 : Int32)
      · exact q_tabIn (M := mX12_fits) (pc := 74) (x := (r1.2.1 (q + 15) x2.toNatClampNeg)) 548 (by rw [n82]; decide) (by rw [n82]; decide) (by rw [n82]; rfl) (by decide) dX12_fits_74 (K trivial)
      by_cases n83 : (r1.2.1 (q + 15) x2.toNatClampNeg) = (14 : Int32)
      · exact q_tabIn (M := mX12_fits) (pc := 74) (x := (r1.2.1 (q + 15) x2.toNatClampNeg)) 548 (by rw [n83]; decide) (by rw [n83]; decide) (by rw [n83]; rfl) (by decide) dX12_fits_74 (K trivial)
      by_cases n84 : (r1.2.1 (q + 15) x2.toNatClampNeg) = (15 : Int32)
      · exact q_tabIn (M := mX12_fits) (pc := 74) (x := (r1.2.1 (q + 15) x2.toNatClampNeg)) 548 (by rw [n84]; decide) (by rw [n84]; decide) (by rw [n84]; rfl) (by decide) dX12_fits_74 (K trivial)
      by_cases n85 : (r1.2.1 (q + 15) x2.toNatClampNeg) = (16 : Int32)
      · exact q_tabIn (M := mX12_fits) (pc := 74) (x := (r1.2.1 (q + 15) x2.toNatClampNeg)) 548 (by rw [n85]; decide) (by rw [n85]; decide) (by rw [n85]; rfl) (by decide) dX12_fits_74 (K trivial)
      by_cases n86 : (r1.2.1 (q + 15) x2.toNatClampNeg) = (17 : Int32)
      · exact q_tabIn (M := mX12_fits) (pc := 74) (x := (r1.2.1 (q + 15) x2.toNatClampNeg)) 548 (by rw [n86]; decide) (by rw [n86]; decide) (by rw [n86]; rfl) (by decide) dX12_fits_74 (K trivial)
      by_cases n87 : (r1.2.1 (q + 15) x2.toNatClampNeg) = (19 : Int32)
      · exact q_tabIn (M := mX12_fits) (pc := 74) (x := (r1.2.1 (q + 15) x2.toNatClampNeg)) 548 (by rw [n87]; decide) (by rw [n87]; decide) (by rw [n87]; rfl) (by decide) dX12_fits_74 (K trivial)
      by_cases n88 : (r1.2.1 (q + 15) x2.toNatClampNeg) = (20 : Int32)
      · exact q_tabIn (M := mX12_fits) (pc := 74) (x := (r1.2.1 (q + 15) x2.toNatClampNeg)) 548 (by rw [n88]; decide) (by rw [n88]; decide) (by rw [n88]; rfl) (by decide) dX12_fits_74 (K trivial)
      by_cases n89 : (r1.2.1 (q + 15) x2.toNatClampNeg) = (21 : Int32)
      · exact q_tabIn (M := mX12_fits) (pc := 74) (x := (r1.2.1 (q + 15) x2.toNatClampNeg)) 548 (by rw [n89]; decide) (by rw [n89]; decide) (by rw [n89]; rfl) (by decide) dX12_fits_74 (K trivial)
      by_cases n90 : (r1.2.1 (q + 15) x2.toNatClampNeg) = (22 : Int32)
      · exact q_tabIn (M := mX12_fits) (pc := 74) (x := (r1.2.1 (q + 15) x2.toNatClampNeg)) 548 (by rw [n90]; decide) (by rw [n90]; decide) (by rw [n90]; rfl) (by decide) dX12_fits_74 (K trivial)
      by_cases n91 : (r1.2.1 (q + 15) x2.toNatClampNeg) = (23 : Int32)
      · exact q_tabIn (M := mX12_fits) (pc := 74) (x := (r1.2.1 (q + 15) x2.toNatClampNeg)) 548 (by rw [n91]; decide) (by rw [n91]; decide) (by rw [n91]; rfl) (by decide) dX12_fits_74 (K trivial)
      by_cases n92 : (r1.2.1 (q + 15) x2.toNatClampNeg) = (24 : Int32)
      · exact q_tabIn (M := mX12_fits) (pc := 74) (x := (r1.2.1 (q + 15) x2.toNatClampNeg)) 548 (by rw [n92]; decide) (by rw [n92]; decide) (by rw [n92]; rfl) (by decide) dX12_fits_74 (K trivial)
      by_cases n93 : (r1.2.1 (q + 15) x2.toNatClampNeg) = (25 : Int32)
      · exact q_tabIn (M := mX12_fits) (pc := 74) (x := (r1.2.1 (q + 15) x2.toNatClampNeg)) 548 (by rw [n93]; decide) (by rw [n93]; decide) (by rw [n93]; rfl) (by decide) dX12_fits_74 (K trivial)
      by_cases n94 : (r1.2.1 (q + 15) x2.toNatClampNeg) = (30 : Int32)
      · exact q_tabIn (M := mX12_fits) (pc := 74) (x := (r1.2.1 (q + 15) x2.toNatClampNeg)) 548 (by rw [n94]; decide) (by rw [n94]; decide) (by rw [n94]; rfl) (by decide) dX12_fits_74 (K trivial)
      by_cases n95 : (r1.2.1 (q + 15) x2.toNatClampNeg) = (44 : Int32)
      · exact q_tabIn (M := mX12_fits) (pc := 74) (x := (r1.2.1 (q + 15) x2.toNatClampNeg)) 548 (by rw [n95]; decide) (by rw [n95]; decide) (by rw [n95]; rfl) (by decide) dX12_fits_74 (K trivial)
      exact q_tabOut (M := mX12_fits) (pc := 74) (x := (r1.2.1 (q + 15) x2.toNatClampNeg)) 548 (by have := lv_neT (a := 2) c12 (by decide); have := lv_neT (a := 4) c14 (by decide); have := lv_neT (a := 18) n62 (by decide); have := lv_neT (a := 31) n63 (by decide); have := lv_neT (a := 45) n64 (by decide); have := lv_neT (a := 26) n65 (by decide); have := lv_neT (a := 27) n66 (by decide); have := lv_neT (a := 37) n67 (by decide); have := lv_neT (a := 38) n68 (by decide); have := lv_neT (a := 28) n69 (by decide); have := lv_neT (a := 29) n70 (by decide); have := lv_neT (a := 32) c25 (by decide); have := lv_neT (a := 33) c28 (by decide); have := lv_neT (a := 34) c31 (by decide); have := lv_neT (a := 35) c35 (by decide); have := lv_neT (a := 36) c39 (by decide); have := lv_neT (a := 39) n71 (by decide); have := lv_neT (a := 40) n72 (by decide); have := lv_neT (a := 41) c49 (by decide); have := lv_neT (a := 42) c52 (by decide); have := lv_neT (a := 43) c59 (by decide); have := lv_neT (a := 3) n73 (by decide); have := lv_neT (a := 5) n74 (by decide); have := lv_neT (a := 6) n75 (by decide); have := lv_neT (a := 7) n76 (by decide); have := lv_neT (a := 8) n77 (by decide); have := lv_neT (a := 9) n78 (by decide); have := lv_neT (a := 10) n79 (by decide); have := lv_neT (a := 11) n80 (by decide); have := lv_neT (a := 12) n81 (by decide); have := lv_neT (a := 13) n82 (by decide); have := lv_neT (a := 14) n83 (by decide); have := lv_neT (a := 15) n84 (by decide); have := lv_neT (a := 16) n85 (by decide); have := lv_neT (a := 17) n86 (by decide); have := lv_neT (a := 19) n87 (by decide); have := lv_neT (a := 20) n88 (by decide); have := lv_neT (a := 21) n89 (by decide); have := lv_neT (a := 22) n90 (by decide); have := lv_neT (a := 23) n91 (by decide); have := lv_neT (a := 24) n92 (by decide); have := lv_neT (a := 25) n93 (by decide); have := lv_neT (a := 30) n94 (by decide); have := lv_neT (a := 44) n95 (by decide); omega) (by decide) dX12_fits_74 (K trivial)
    replace h := hv
    refine q_icmp_le 70 (by decide) dX12_fits_53 (fun c => ?_) (fun c => ?_)
    · rw [if_pos c] at h
      refine q_iconst (v := (2 : Int32)) (by decide) dX12_fits_70 ?_
      obtain rfl := Option.some.inj h
      refine q_sub [1, 2, 3, 4, 5, 0] rfl ?_
      exact K2
    · rw [if_neg c] at h
      refine q_aload_n 1 rfl rfl dX12_fits_56 ?_
      refine q_getR (q_sh102 (w.fx fx3)) (by decide) (by decide) rfl lfX12_61 dX12_fits_57 (r := 171) (q_wr102_22 (w.fx fx3)) ?_
      refine q_aload_n 1 rfl rfl dX12_fits_60 ?_
      refine q_getI (q_sh102 (w.fx fx3)) (by decide) (by decide) rfl lfX12_451 dX12_fits_61 ?_
      refine q_iconst (v := (2 : Int32)) (by decide) dX12_fits_64 ?_
      refine q_isub dX12_fits_65 ?_
      obtain ⟨hg10, h⟩ := q_guard h
      refine q_iald (q_sh171 (w.fx fx3)) (q_inb_in hg10) dX12_fits_66 ?_
      refine q_goto 71 (by decide) dX12_fits_67 ?_
      obtain rfl := Option.some.inj h
      refine q_sub [1, 2, 3, 4, 5, 0] rfl ?_
      exact K2
  replace h := hv
  refine q_if_le 47 (by decide) dX12_fits_30 (fun c => ?_) (fun c => ?_)
  · rw [if_pos c] at h
    refine q_iconst (v := (2 : Int32)) (by decide) dX12_fits_47 ?_
    obtain rfl := Option.some.inj h
    refine q_sub [3, 4, 5, 2, 1, 0] rfl ?_
    exact K1
  · rw [if_neg c] at h
    refine q_aload_n 3 rfl rfl dX12_fits_33 ?_
    refine q_getR (q_sh102 (w.fx fx3)) (by decide) (by decide) rfl lfX12_61 dX12_fits_34 (r := 171) (q_wr102_22 (w.fx fx3)) ?_
    refine q_aload_n 3 rfl rfl dX12_fits_37 ?_
    refine q_getI (q_sh102 (w.fx fx3)) (by decide) (by decide) rfl lfX12_451 dX12_fits_38 ?_
    refine q_iconst (v := (1 : Int32)) (by decide) dX12_fits_41 ?_
    refine q_isub dX12_fits_42 ?_
    obtain ⟨hg8, h⟩ := q_guard h
    refine q_iald (q_sh171 (w.fx fx3)) (q_inb_in hg8) dX12_fits_43 ?_
    refine q_goto 48 (by decide) dX12_fits_44 ?_
    obtain rfl := Option.some.inj h
    refine q_sub [3, 4, 5, 2, 1, 0] rfl ?_
    exact K1
set_option maxRecDepth 20000 in
theorem sX12_types_168 {g : QG} {Q : Option Value → QS → Prop} {q : Nat} {y2 : Int32} {x : Int32 × QS} {z : (Bool × QS) ⊕ (Int32 × QS)} (w : q_Wire x.2) (hq : q_qok q) (h : tX12_types_168 q y2 x = some z) (hQ : (Sum.elim (fun r0 : Bool × QS => Q (some (.int (q_b r0.1))) r0.2) (fun y : Int32 × QS => q_L g mX12_types 5 0 0 Q 0 0 168 [(0, .ref 102), (1, .ref q), (2, .int y2), (5, .int y.1)] [] y.2) z)) : q_L g mX12_types 5 0 0 Q 0 0 168 [(0, .ref 102), (1, .ref q), (2, .int y2), (5, .int x.1)] [] x.2 := by
  unfold tX12_types_168 at h
  refine q_iload 3 rfl dX12_types_168 ?_
  refine q_aload_n 1 rfl rfl dX12_types_170 ?_
  refine q_getR (q_shQ0 w hq) (by decide) (by decide) rfl lfX12_340 dX12_types_171 (r := (q + 13)) (q_wrQ0_19 w hq) ?_
  refine q_iload_n 2 rfl rfl dX12_types_174 ?_
  obtain ⟨hg1, h⟩ := q_guard h
  refine q_iald (q_shQ13 w hq) (q_inb_in hg1) dX12_types_175 ?_
  refine q_icmp_ge 217 (by decide) dX12_types_176 (fun c => ?_) (fun c => ?_)
  · rw [if_pos c] at h
    refine q_iconst (v := (1 : Int32)) (by decide) dX12_types_217 ?_
    cases h
    exact q_iret rfl (by decide) dX12_types_218 hQ
  · rw [if_neg c] at h
    refine q_aload_n 1 rfl rfl dX12_types_179 ?_
    refine q_getR (q_shQ0 w hq) (by decide) (by decide) rfl lfX12_439 dX12_types_180 (r := (q + 27)) (q_wrQ0_33 w hq) ?_
    refine q_iload 3 rfl dX12_types_183 ?_
    obtain ⟨hg2, h⟩ := q_guard h
    refine q_zald (q_shQ27 w hq) (q_inb_in hg2) dX12_types_185 ?_
    refine q_if_eq 211 (by decide) dX12_types_186 (fun c => ?_) (fun c => ?_)
    · rw [if_pos c] at h
      refine q_iinc (v := (x.1 + (1 : Int32))) 3 [(5, .int (x.1 + (1 : Int32))), (0, .ref 102), (1, .ref q), (2, .int y2)] (by decide) rfl (congrArg (fun t => x.1 + t) (by decide)) rfl dX12_types_211 ?_
      refine q_goto 168 (by decide) dX12_types_214 ?_
      refine q_sub [1, 2, 3, 0] rfl ?_
      cases h
      exact hQ
    · rw [if_neg c] at h
      refine q_aload_n 0 rfl rfl dX12_types_189 ?_
      refine q_aload_n 1 rfl rfl dX12_types_190 ?_
      refine q_iload 3 rfl dX12_types_191 ?_
      obtain ⟨r3, e4, h⟩ := q_bind h
      refine q_callV (ci := 12) (d := 4) (Mc := mX12_fits) (kc := 0) (nc := 0) [.ref q, .int x.1] okX12_fits (q_sh102 w) (by decide) rfl lmX12_448 inX12_fits seX12_fits rfl (Nat.le_of_ble_eq_true rfl) (Nat.le_of_ble_eq_true rfl) (Nat.le_refl _) (Nat.le_refl _) dX12_types_193 (q_L.deep (by decide) (kX12_fits (Q := fun r S' => r = some (.int (q_b r3.1)) ∧ S' = r3.2) w hq e4 ⟨rfl, rfl⟩)) (q_kI ?_)
      have fx5 : q_Fx x.2 r3.2 := q_Fx.tr (q_Fx.rf x.2) (fxX12_fits e4)
      refine q_if_ne 211 (by decide) dX12_types_196 (fun c => ?_) (fun c => ?_)
      · have c := q_b_n.mp c; rw [q_if1 c] at h
        refine q_iinc (v := (x.1 + (1 : Int32))) 3 [(5, .int (x.1 + (1 : Int32))), (0, .ref 102), (1, .ref q), (2, .int y2)] (by decide) rfl (congrArg (fun t => x.1 + t) (by decide)) rfl dX12_types_211 ?_
        refine q_goto 168 (by decide) dX12_types_214 ?_
        refine q_sub [1, 2, 3, 0] rfl ?_
        cases h
        exact hQ
      · have c := q_b_0.mp c; rw [q_if0 c] at h
        refine q_aload_n 0 rfl rfl dX12_types_199 ?_
        refine q_aload_n 0 rfl rfl dX12_types_200 ?_
        refine q_getR (q_sh102 (w.fx fx5)) (by decide) (by decide) rfl lfX12_55 dX12_types_201 (r := 169) (q_wr102_20 (w.fx fx5)) ?_
        refine q_iload 3 rfl dX12_types_204 ?_
        obtain ⟨hg6, h⟩ := q_guard h
        refine q_iald (q_sh169 (w.fx fx5)) (q_inb_in hg6) dX12_types_206 ?_
        obtain ⟨r7, e8, h⟩ := q_bind h
        refine q_callV (ci := 12) (d := 4) (Mc := mX12_wrong) (kc := 0) (nc := 0) [.int (r3.2.2.1 169 x.1.toNatClampNeg)] okX12_wrong (q_sh102 (w.fx fx5)) (by decide) rfl lmX12_254 inX12_wrong seX12_wrong rfl (Nat.le_of_ble_eq_true rfl) (Nat.le_of_ble_eq_true rfl) (Nat.le_refl _) (Nat.le_refl _) dX12_types_207 (q_L.deep (by decide) (kX12_wrong (Q := fun r S' => r = some (.int (q_b r7.1)) ∧ S' = r7.2) (w.fx fx5) e8 ⟨rfl, rfl⟩)) (q_kI ?_)
        have fx9 : q_Fx x.2 r7.2 := q_Fx.tr (fx5) (fxX12_wrong e8)
        cases h
        exact q_iret rfl (q_b_nar _) dX12_types_210 hQ
theorem lX12_types_168 {g : QG} {Q : Option Value → QS → Prop} {q : Nat} {y2 : Int32} {r : Bool × QS} (hq : q_qok q) (hQ : Q (some (.int (q_b r.1))) r.2) : ∀ (c : Nat) (x : Int32 × QS), q_Wire x.2 → q_it (tX12_types_168 q y2) c x = some r → q_L g mX12_types 5 0 0 Q 0 0 168 [(0, .ref 102), (1, .ref q), (2, .int y2), (5, .int x.1)] [] x.2 := by
  intro c
  induction c with
  | zero => intro x w h; cases h
  | succ c ih =>
    intro x w h
    simp only [q_it] at h
    cases hz : tX12_types_168 q y2 x with
    | none => rw [hz] at h; cases h
    | some z =>
      rw [hz] at h
      refine sX12_types_168 w hq hz ?_
      rcases z with z | y
      · cases h; exact hQ
      · have fz := fxtX12_types_168 hz; exact ih y (w.fx fz) h
theorem kX12_types_168 {S : QS} {g : QG} {Q : Option Value → QS → Prop} {q : Nat} {y2 : Int32} {y5 : Int32} {r : Bool × QS} (w : q_Wire S) (hq : q_qok q) (h : fX12_types_168 S q y2 y5 = some r) (hQ : Q (some (.int (q_b r.1))) r.2) : q_L g mX12_types 5 0 0 Q 0 0 168 [(0, .ref 102), (1, .ref q), (2, .int y2), (5, .int y5)] [] S := by
  obtain ⟨c, hc⟩ := q_run_it h
  exact lX12_types_168 hq hQ c (y5, S) w hc
set_option maxRecDepth 20000 in
theorem sX12_types_113 {g : QG} {Q : Option Value → QS → Prop} {q : Nat} {y2 : Int32} {y3 : Int32} {x : Int32 × Int32 × QS} {z : ((Bool × QS) ⊕ (Int32 × QS)) ⊕ (Int32 × Int32 × QS)} (w : q_Wire x.2.2) (hq : q_qok q) (h : tX12_types_113 q y2 y3 x = some z) (hQ : (Sum.elim (fun r1 : (Bool × QS) ⊕ (Int32 × QS) => (Sum.elim (fun r0 : Bool × QS => Q (some (.int (q_b r0.1))) r0.2) (fun y : Int32 × QS => q_L g mX12_types 5 0 0 Q 0 0 102 [(0, .ref 102), (1, .ref q), (2, .int y2), (3, .int y3), (4, .int y.1)] [] y.2) r1)) (fun y' : Int32 × Int32 × QS => q_L g mX12_types 5 0 0 Q 0 0 113 [(0, .ref 102), (1, .ref q), (2, .int y2), (3, .int y3), (4, .int y'.1), (5, .int y'.2.1)] [] y'.2.2) z)) : q_L g mX12_types 5 0 0 Q 0 0 113 [(0, .ref 102), (1, .ref q), (2, .int y2), (3, .int y3), (4, .int x.1), (5, .int x.2.1)] [] x.2.2 := by
  unfold tX12_types_113 at h
  refine q_iload 5 rfl dX12_types_113 ?_
  refine q_aload_n 1 rfl rfl dX12_types_115 ?_
  refine q_getR (q_shQ0 w hq) (by decide) (by decide) rfl lfX12_340 dX12_types_116 (r := (q + 13)) (q_wrQ0_19 w hq) ?_
  refine q_iload_n 2 rfl rfl dX12_types_119 ?_
  obtain ⟨hg10, h⟩ := q_guard h
  refine q_iald (q_shQ13 w hq) (q_inb_in hg10) dX12_types_120 ?_
  refine q_icmp_ge 162 (by decide) dX12_types_121 (fun c => ?_) (fun c => ?_)
  · rw [if_pos c] at h
    refine q_goto 102 (by decide) dX12_types_162 ?_
    refine q_sub [0, 1, 2, 3, 4] rfl ?_
    cases h
    exact hQ
  · rw [if_neg c] at h
    refine q_aload_n 1 rfl rfl dX12_types_124 ?_
    refine q_getR (q_shQ0 w hq) (by decide) (by decide) rfl lfX12_439 dX12_types_125 (r := (q + 27)) (q_wrQ0_33 w hq) ?_
    refine q_iload 5 rfl dX12_types_128 ?_
    obtain ⟨hg11, h⟩ := q_guard h
    refine q_zald (q_shQ27 w hq) (q_inb_in hg11) dX12_types_130 ?_
    refine q_if_eq 156 (by decide) dX12_types_131 (fun c => ?_) (fun c => ?_)
    · rw [if_pos c] at h
      refine q_iinc (v := (x.2.1 + (1 : Int32))) 5 [(5, .int (x.2.1 + (1 : Int32))), (0, .ref 102), (1, .ref q), (2, .int y2), (3, .int y3), (4, .int x.1)] (by decide) rfl (congrArg (fun t => x.2.1 + t) (by decide)) rfl dX12_types_156 ?_
      refine q_goto 113 (by decide) dX12_types_159 ?_
      refine q_sub [1, 2, 3, 4, 5, 0] rfl ?_
      cases h
      exact hQ
    · rw [if_neg c] at h
      refine q_aload_n 0 rfl rfl dX12_types_134 ?_
      refine q_aload_n 1 rfl rfl dX12_types_135 ?_
      refine q_iload 5 rfl dX12_types_136 ?_
      obtain ⟨r12, e13, h⟩ := q_bind h
      refine q_callV (ci := 12) (d := 4) (Mc := mX12_typesOn) (kc := 0) (nc := 0) [.ref q, .int x.2.1] okX12_typesOn (q_sh102 w) (by decide) rfl lmX12_445 inX12_typesOn seX12_typesOn rfl (Nat.le_of_ble_eq_true rfl) (Nat.le_of_ble_eq_true rfl) (Nat.le_refl _) (Nat.le_refl _) dX12_types_138 (q_L.deep (by decide) (kX12_typesOn (Q := fun r S' => r = some (.int (q_b r12.1)) ∧ S' = r12.2) w hq e13 ⟨rfl, rfl⟩)) (q_kI ?_)
      have fx14 : q_Fx x.2.2 r12.2 := q_Fx.tr (q_Fx.rf x.2.2) (fxX12_typesOn e13)
      refine q_if_ne 149 (by decide) dX12_types_141 (fun c => ?_) (fun c => ?_)
      · have c := q_b_n.mp c; rw [q_if1 c] at h
        refine q_iconst (v := (1 : Int32)) (by decide) dX12_types_149 ?_
        refine q_goto 154 (by decide) dX12_types_150 ?_
        refine q_istore [(4, .int (1 : Int32)), (0, .ref 102), (1, .ref q), (2, .int y2), (3, .int y3), (5, .int x.2.1)] (by decide) rfl dX12_types_154 ?_
        refine q_iinc (v := (x.2.1 + (1 : Int32))) 5 [(5, .int (x.2.1 + (1 : Int32))), (4, .int (1 : Int32)), (0, .ref 102), (1, .ref q), (2, .int y2), (3, .int y3)] (by decide) rfl (congrArg (fun t => x.2.1 + t) (by decide)) rfl dX12_types_156 ?_
        refine q_goto 113 (by decide) dX12_types_159 ?_
        refine q_sub [2, 3, 4, 5, 1, 0] rfl ?_
        cases h
        exact hQ
      · have c := q_b_0.mp c; rw [q_if0 c] at h
        refine q_iload 4 rfl dX12_types_144 ?_
        refine q_if_eq 153 (by decide) dX12_types_146 (fun c => ?_) (fun c => ?_)
        · rw [if_pos c] at h
          refine q_iconst (v := (0 : Int32)) (by decide) dX12_types_153 ?_
          refine q_istore [(4, .int (0 : Int32)), (0, .ref 102), (1, .ref q), (2, .int y2), (3, .int y3), (5, .int x.2.1)] (by decide) rfl dX12_types_154 ?_
          refine q_iinc (v := (x.2.1 + (1 : Int32))) 5 [(5, .int (x.2.1 + (1 : Int32))), (4, .int (0 : Int32)), (0, .ref 102), (1, .ref q), (2, .int y2), (3, .int y3)] (by decide) rfl (congrArg (fun t => x.2.1 + t) (by decide)) rfl dX12_types_156 ?_
          refine q_goto 113 (by decide) dX12_types_159 ?_
          refine q_sub [2, 3, 4, 5, 1, 0] rfl ?_
          cases h
          exact hQ
        · rw [if_neg c] at h
          refine q_iconst (v := (1 : Int32)) (by decide) dX12_types_149 ?_
          refine q_goto 154 (by decide) dX12_types_150 ?_
          refine q_istore [(4, .int (1 : Int32)), (0, .ref 102), (1, .ref q), (2, .int y2), (3, .int y3), (5, .int x.2.1)] (by decide) rfl dX12_types_154 ?_
          refine q_iinc (v := (x.2.1 + (1 : Int32))) 5 [(5, .int (x.2.1 + (1 : Int32))), (4, .int (1 : Int32)), (0, .ref 102), (1, .ref q), (2, .int y2), (3, .int y3)] (by decide) rfl (congrArg (fun t => x.2.1 + t) (by decide)) rfl dX12_types_156 ?_
          refine q_goto 113 (by decide) dX12_types_159 ?_
          refine q_sub [2, 3, 4, 5, 1, 0] rfl ?_
          cases h
          exact hQ
theorem lX12_types_113 {g : QG} {Q : Option Value → QS → Prop} {q : Nat} {y2 : Int32} {y3 : Int32} {r : (Bool × QS) ⊕ (Int32 × QS)} (hq : q_qok q) (hQ : (Sum.elim (fun r0 : Bool × QS => Q (some (.int (q_b r0.1))) r0.2) (fun y : Int32 × QS => q_L g mX12_types 5 0 0 Q 0 0 102 [(0, .ref 102), (1, .ref q), (2, .int y2), (3, .int y3), (4, .int y.1)] [] y.2) r)) : ∀ (c : Nat) (x : Int32 × Int32 × QS), q_Wire x.2.2 → q_it (tX12_types_113 q y2 y3) c x = some r → q_L g mX12_types 5 0 0 Q 0 0 113 [(0, .ref 102), (1, .ref q), (2, .int y2), (3, .int y3), (4, .int x.1), (5, .int x.2.1)] [] x.2.2 := by
  intro c
  induction c with
  | zero => intro x w h; cases h
  | succ c ih =>
    intro x w h
    simp only [q_it] at h
    cases hz : tX12_types_113 q y2 y3 x with
    | none => rw [hz] at h; cases h
    | some z =>
      rw [hz] at h
      refine sX12_types_113 w hq hz ?_
      rcases z with z | y
      · cases h; exact hQ
      · have fz := fxtX12_types_113 hz; exact ih y (w.fx fz) h
theorem usX12_types_113 {S : QS} {g : QG} {Q : Option Value → QS → Prop} {q : Nat} {y2 : Int32} {y3 : Int32} {y4 : Int32} {y5 : Int32} {r : (Bool × QS) ⊕ (Int32 × QS)} (w : q_Wire S) (hq : q_qok q) (h : uX12_types_113 S q y2 y3 y4 y5 = some r) (hQ : (Sum.elim (fun r0 : Bool × QS => Q (some (.int (q_b r0.1))) r0.2) (fun y : Int32 × QS => q_L g mX12_types 5 0 0 Q 0 0 102 [(0, .ref 102), (1, .ref q), (2, .int y2), (3, .int y3), (4, .int y.1)] [] y.2) r)) : q_L g mX12_types 5 0 0 Q 0 0 113 [(0, .ref 102), (1, .ref q), (2, .int y2), (3, .int y3), (4, .int y4), (5, .int y5)] [] S := by
  obtain ⟨c, hc⟩ := q_run_it h
  exact lX12_types_113 hq hQ c (y4, y5, S) w hc
set_option maxRecDepth 20000 in
theorem sX12_types_102 {g : QG} {Q : Option Value → QS → Prop} {q : Nat} {y2 : Int32} {y3 : Int32} {x : Int32 × QS} {z : (Bool × QS) ⊕ (Int32 × QS)} (w : q_Wire x.2) (hq : q_qok q) (h : tX12_types_102 q y2 y3 x = some z) (hQ : (Sum.elim (fun r0 : Bool × QS => Q (some (.int (q_b r0.1))) r0.2) (fun y : Int32 × QS => q_L g mX12_types 5 0 0 Q 0 0 102 [(0, .ref 102), (1, .ref q), (2, .int y2), (3, .int y3), (4, .int y.1)] [] y.2) z)) : q_L g mX12_types 5 0 0 Q 0 0 102 [(0, .ref 102), (1, .ref q), (2, .int y2), (3, .int y3), (4, .int x.1)] [] x.2 := by
  unfold tX12_types_102 at h
  refine q_iload 4 rfl dX12_types_102 ?_
  refine q_if_eq 165 (by decide) dX12_types_104 (fun c => ?_) (fun c => ?_)
  · rw [if_pos c] at h
    refine q_iload_n 3 rfl rfl dX12_types_165 ?_
    refine q_istore [(5, .int y3), (0, .ref 102), (1, .ref q), (2, .int y2), (3, .int y3), (4, .int x.1)] (by decide) rfl dX12_types_166 ?_
    refine q_sub [1, 2, 3, 0] rfl ?_
    obtain ⟨r15, e16, h⟩ := q_bind h
    cases h
    exact kX12_types_168 w hq e16 hQ
  · rw [if_neg c] at h
    refine q_iconst (v := (0 : Int32)) (by decide) dX12_types_107 ?_
    refine q_istore [(4, .int (0 : Int32)), (0, .ref 102), (1, .ref q), (2, .int y2), (3, .int y3)] (by decide) rfl dX12_types_108 ?_
    refine q_iload_n 4 rfl rfl dX12_types_110 ?_
    refine q_istore [(5, .int y3), (4, .int (0 : Int32)), (0, .ref 102), (1, .ref q), (2, .int y2), (3, .int y3)] (by decide) rfl dX12_types_111 ?_
    refine q_sub [2, 3, 4, 5, 1, 0] rfl ?_
    exact usX12_types_113 w hq h hQ
theorem lX12_types_102 {g : QG} {Q : Option Value → QS → Prop} {q : Nat} {y2 : Int32} {y3 : Int32} {r : Bool × QS} (hq : q_qok q) (hQ : Q (some (.int (q_b r.1))) r.2) : ∀ (c : Nat) (x : Int32 × QS), q_Wire x.2 → q_it (tX12_types_102 q y2 y3) c x = some r → q_L g mX12_types 5 0 0 Q 0 0 102 [(0, .ref 102), (1, .ref q), (2, .int y2), (3, .int y3), (4, .int x.1)] [] x.2 := by
  intro c
  induction c with
  | zero => intro x w h; cases h
  | succ c ih =>
    intro x w h
    simp only [q_it] at h
    cases hz : tX12_types_102 q y2 y3 x with
    | none => rw [hz] at h; cases h
    | some z =>
      rw [hz] at h
      refine sX12_types_102 w hq hz ?_
      rcases z with z | y
      · cases h; exact hQ
      · have fz := fxtX12_types_102 hz; exact ih y (w.fx fz) h
theorem kX12_types_102 {S : QS} {g : QG} {Q : Option Value → QS → Prop} {q : Nat} {y2 : Int32} {y3 : Int32} {y4 : Int32} {r : Bool × QS} (w : q_Wire S) (hq : q_qok q) (h : fX12_types_102 S q y2 y3 y4 = some r) (hQ : Q (some (.int (q_b r.1))) r.2) : q_L g mX12_types 5 0 0 Q 0 0 102 [(0, .ref 102), (1, .ref q), (2, .int y2), (3, .int y3), (4, .int y4)] [] S := by
  obtain ⟨c, hc⟩ := q_run_it h
  exact lX12_types_102 hq hQ c (y4, S) w hc
set_option maxRecDepth 20000 in
theorem sX12_types_47 {g : QG} {Q : Option Value → QS → Prop} {q : Nat} {y2 : Int32} {y3 : Int32} {x : Int32 × QS} {z : (Bool × QS) ⊕ (Int32 × QS)} (w : q_Wire x.2) (hq : q_qok q) (h : tX12_types_47 q y2 y3 x = some z) (hQ : (Sum.elim (fun r0 : Bool × QS => Q (some (.int (q_b r0.1))) r0.2) (fun y : Int32 × QS => q_L g mX12_types 5 0 0 Q 0 0 47 [(0, .ref 102), (1, .ref q), (2, .int y2), (3, .int y3), (4, .int y.1)] [] y.2) z)) : q_L g mX12_types 5 0 0 Q 0 0 47 [(0, .ref 102), (1, .ref q), (2, .int y2), (3, .int y3), (4, .int x.1)] [] x.2 := by
  unfold tX12_types_47 at h
  refine q_iload 4 rfl dX12_types_47 ?_
  refine q_bipush (v := (12 : Int32)) (by decide) dX12_types_49 ?_
  refine q_icmp_ge 99 (by decide) dX12_types_51 (fun c => ?_) (fun c => ?_)
  · rw [if_pos c] at h
    refine q_iconst (v := (1 : Int32)) (by decide) dX12_types_99 ?_
    refine q_istore [(4, .int (1 : Int32)), (0, .ref 102), (1, .ref q), (2, .int y2), (3, .int y3)] (by decide) rfl dX12_types_100 ?_
    refine q_sub [1, 2, 3, 4, 0] rfl ?_
    obtain ⟨r17, e18, h⟩ := q_bind h
    cases h
    exact kX12_types_102 w hq e18 hQ
  · rw [if_neg c] at h
    refine q_aload_n 1 rfl rfl dX12_types_54 ?_
    refine q_getR (q_shQ0 w hq) (by decide) (by decide) rfl lfX12_442 dX12_types_55 (r := (q + 26)) (q_wrQ0_32 w hq) ?_
    refine q_iload_n 3 rfl rfl dX12_types_58 ?_
    refine q_bipush (v := (20 : Int32)) (by decide) dX12_types_59 ?_
    refine q_imul dX12_types_61 ?_
    refine q_iload 4 rfl dX12_types_62 ?_
    refine q_iadd dX12_types_64 ?_
    refine q_iload 4 rfl dX12_types_65 ?_
    refine q_aload_n 1 rfl rfl dX12_types_67 ?_
    refine q_getR (q_shQ0 w hq) (by decide) (by decide) rfl lfX12_313 dX12_types_68 (r := (q + 8)) (q_wrQ0_14 w hq) ?_
    refine q_iload_n 2 rfl rfl dX12_types_71 ?_
    obtain ⟨hg19, h⟩ := q_guard h
    refine q_iald (q_shQ8 w hq) (q_inb_in hg19) dX12_types_72 ?_
    refine q_icmp_ge 91 (by decide) dX12_types_73 (fun c => ?_) (fun c => ?_)
    · rw [if_pos c] at h
      refine q_iconst (v := (2 : Int32)) (by decide) dX12_types_91 ?_
      obtain ⟨hg20, h⟩ := q_guard h
      refine q_iast (q_shQ26 w hq) (q_inb_in hg20) dX12_types_92 ?_
      obtain ⟨S21, e22, h⟩ := q_bindS h
      refine q_st e22 ?_
      have fx23 : q_Fx x.2 S21 := e22 ▸ q_Fx.sI (q_Fx.rf x.2)
      refine q_iinc (v := (x.1 + (1 : Int32))) 4 [(4, .int (x.1 + (1 : Int32))), (0, .ref 102), (1, .ref q), (2, .int y2), (3, .int y3)] (by decide) rfl (congrArg (fun t => x.1 + t) (by decide)) rfl dX12_types_93 ?_
      refine q_goto 47 (by decide) dX12_types_96 ?_
      refine q_sub [1, 2, 3, 4, 0] rfl ?_
      cases h
      exact hQ
    · rw [if_neg c] at h
      refine q_aload_n 1 rfl rfl dX12_types_76 ?_
      refine q_getR (q_shQ0 w hq) (by decide) (by decide) rfl lfX12_305 dX12_types_77 (r := (q + 9)) (q_wrQ0_15 w hq) ?_
      refine q_iload_n 2 rfl rfl dX12_types_80 ?_
      refine q_bipush (v := (12 : Int32)) (by decide) dX12_types_81 ?_
      refine q_imul dX12_types_83 ?_
      refine q_iload 4 rfl dX12_types_84 ?_
      refine q_iadd dX12_types_86 ?_
      obtain ⟨hg24, h⟩ := q_guard h
      refine q_iald (q_shQ9 w hq) (q_inb_in hg24) dX12_types_87 ?_
      refine q_goto 92 (by decide) dX12_types_88 ?_
      obtain ⟨hg25, h⟩ := q_guard h
      refine q_iast (q_shQ26 w hq) (q_inb_in hg25) dX12_types_92 ?_
      obtain ⟨S26, e27, h⟩ := q_bindS h
      refine q_st e27 ?_
      have fx28 : q_Fx x.2 S26 := e27 ▸ q_Fx.sI (q_Fx.rf x.2)
      refine q_iinc (v := (x.1 + (1 : Int32))) 4 [(4, .int (x.1 + (1 : Int32))), (0, .ref 102), (1, .ref q), (2, .int y2), (3, .int y3)] (by decide) rfl (congrArg (fun t => x.1 + t) (by decide)) rfl dX12_types_93 ?_
      refine q_goto 47 (by decide) dX12_types_96 ?_
      refine q_sub [1, 2, 3, 4, 0] rfl ?_
      cases h
      exact hQ
theorem lX12_types_47 {g : QG} {Q : Option Value → QS → Prop} {q : Nat} {y2 : Int32} {y3 : Int32} {r : Bool × QS} (hq : q_qok q) (hQ : Q (some (.int (q_b r.1))) r.2) : ∀ (c : Nat) (x : Int32 × QS), q_Wire x.2 → q_it (tX12_types_47 q y2 y3) c x = some r → q_L g mX12_types 5 0 0 Q 0 0 47 [(0, .ref 102), (1, .ref q), (2, .int y2), (3, .int y3), (4, .int x.1)] [] x.2 := by
  intro c
  induction c with
  | zero => intro x w h; cases h
  | succ c ih =>
    intro x w h
    simp only [q_it] at h
    cases hz : tX12_types_47 q y2 y3 x with
    | none => rw [hz] at h; cases h
    | some z =>
      rw [hz] at h
      refine sX12_types_47 w hq hz ?_
      rcases z with z | y
      · cases h; exact hQ
      · have fz := fxtX12_types_47 hz; exact ih y (w.fx fz) h
theorem kX12_types_47 {S : QS} {g : QG} {Q : Option Value → QS → Prop} {q : Nat} {y2 : Int32} {y3 : Int32} {y4 : Int32} {r : Bool × QS} (w : q_Wire S) (hq : q_qok q) (h : fX12_types_47 S q y2 y3 y4 = some r) (hQ : Q (some (.int (q_b r.1))) r.2) : q_L g mX12_types 5 0 0 Q 0 0 47 [(0, .ref 102), (1, .ref q), (2, .int y2), (3, .int y3), (4, .int y4)] [] S := by
  obtain ⟨c, hc⟩ := q_run_it h
  exact lX12_types_47 hq hQ c (y4, S) w hc
set_option maxRecDepth 20000 in
theorem sX12_types_7 {g : QG} {Q : Option Value → QS → Prop} {q : Nat} {y2 : Int32} {x : Int32 × QS} {z : (Bool × QS) ⊕ (Int32 × QS)} (w : q_Wire x.2) (hq : q_qok q) (h : tX12_types_7 q y2 x = some z) (hQ : (Sum.elim (fun r0 : Bool × QS => Q (some (.int (q_b r0.1))) r0.2) (fun y : Int32 × QS => q_L g mX12_types 5 0 0 Q 0 0 7 [(0, .ref 102), (1, .ref q), (2, .int y2), (3, .int y.1)] [] y.2) z)) : q_L g mX12_types 5 0 0 Q 0 0 7 [(0, .ref 102), (1, .ref q), (2, .int y2), (3, .int x.1)] [] x.2 := by
  unfold tX12_types_7 at h
  refine q_iload_n 3 rfl rfl dX12_types_7 ?_
  refine q_aload_n 1 rfl rfl dX12_types_8 ?_
  refine q_getR (q_shQ0 w hq) (by decide) (by decide) rfl lfX12_340 dX12_types_9 (r := (q + 13)) (q_wrQ0_19 w hq) ?_
  refine q_iload_n 2 rfl rfl dX12_types_12 ?_
  obtain ⟨hg29, h⟩ := q_guard h
  refine q_iald (q_shQ13 w hq) (q_inb_in hg29) dX12_types_13 ?_
  refine q_icmp_ge 30 (by decide) dX12_types_14 (fun c => ?_) (fun c => ?_)
  · rw [if_pos c] at h
    refine q_aload_n 1 rfl rfl dX12_types_30 ?_
    refine q_getR (q_shQ0 w hq) (by decide) (by decide) rfl lfX12_331 dX12_types_31 (r := (q + 12)) (q_wrQ0_18 w hq) ?_
    refine q_iload_n 2 rfl rfl dX12_types_34 ?_
    obtain ⟨hg30, h⟩ := q_guard h
    refine q_iald (q_shQ12 w hq) (q_inb_in hg30) dX12_types_35 ?_
    refine q_istore_n [(3, .int (x.2.2.1 (q + 12) y2.toNatClampNeg)), (0, .ref 102), (1, .ref q), (2, .int y2)] rfl (by decide) rfl dX12_types_36 ?_
    refine q_aload_n 2 rfl rfl dX12_types_37 ?_
    refine q_getR (q_shQ0 w hq) (by decide) (by decide) rfl lfX12_439 dX12_types_38 (r := (q + 27)) (q_wrQ0_33 w hq) ?_
    refine q_iload_n 0 rfl rfl dX12_types_41 ?_
    refine q_iconst (v := (1 : Int32)) (by decide) dX12_types_42 ?_
    obtain ⟨hg31, h⟩ := q_guard h
    refine q_zast (q_shQ27 w hq) (q_inb_in hg31) dX12_types_43 ?_
    obtain ⟨S32, e33, h⟩ := q_bindS h
    refine q_st e33 ?_
    have fx34 : q_Fx x.2 S32 := e33 ▸ q_Fx.sI (q_Fx.rf x.2)
    refine q_iconst (v := (0 : Int32)) (by decide) dX12_types_44 ?_
    refine q_istore [(4, .int (0 : Int32)), (3, .int (x.2.2.1 (q + 12) y2.toNatClampNeg)), (0, .ref 102), (1, .ref q), (2, .int y2)] (by decide) rfl dX12_types_45 ?_
    refine q_sub [2, 3, 4, 1, 0] rfl ?_
    obtain ⟨r35, e36, h⟩ := q_bind h
    cases h
    exact kX12_types_47 (w.fx fx34) hq e36 hQ
  · rw [if_neg c] at h
    refine q_aload_n 1 rfl rfl dX12_types_17 ?_
    refine q_getR (q_shQ0 w hq) (by decide) (by decide) rfl lfX12_439 dX12_types_18 (r := (q + 27)) (q_wrQ0_33 w hq) ?_
    refine q_iload_n 3 rfl rfl dX12_types_21 ?_
    refine q_iconst (v := (0 : Int32)) (by decide) dX12_types_22 ?_
    obtain ⟨hg37, h⟩ := q_guard h
    refine q_zast (q_shQ27 w hq) (q_inb_in hg37) dX12_types_23 ?_
    obtain ⟨S38, e39, h⟩ := q_bindS h
    refine q_st e39 ?_
    have fx40 : q_Fx x.2 S38 := e39 ▸ q_Fx.sI (q_Fx.rf x.2)
    refine q_iinc (v := (x.1 + (1 : Int32))) 3 [(3, .int (x.1 + (1 : Int32))), (0, .ref 102), (1, .ref q), (2, .int y2)] (by decide) rfl (congrArg (fun t => x.1 + t) (by decide)) rfl dX12_types_24 ?_
    refine q_goto 7 (by decide) dX12_types_27 ?_
    refine q_sub [1, 2, 3, 0] rfl ?_
    cases h
    exact hQ
theorem lX12_types_7 {g : QG} {Q : Option Value → QS → Prop} {q : Nat} {y2 : Int32} {r : Bool × QS} (hq : q_qok q) (hQ : Q (some (.int (q_b r.1))) r.2) : ∀ (c : Nat) (x : Int32 × QS), q_Wire x.2 → q_it (tX12_types_7 q y2) c x = some r → q_L g mX12_types 5 0 0 Q 0 0 7 [(0, .ref 102), (1, .ref q), (2, .int y2), (3, .int x.1)] [] x.2 := by
  intro c
  induction c with
  | zero => intro x w h; cases h
  | succ c ih =>
    intro x w h
    simp only [q_it] at h
    cases hz : tX12_types_7 q y2 x with
    | none => rw [hz] at h; cases h
    | some z =>
      rw [hz] at h
      refine sX12_types_7 w hq hz ?_
      rcases z with z | y
      · cases h; exact hQ
      · have fz := fxtX12_types_7 hz; exact ih y (w.fx fz) h
theorem kX12_types_7 {S : QS} {g : QG} {Q : Option Value → QS → Prop} {q : Nat} {y2 : Int32} {y3 : Int32} {r : Bool × QS} (w : q_Wire S) (hq : q_qok q) (h : fX12_types_7 S q y2 y3 = some r) (hQ : Q (some (.int (q_b r.1))) r.2) : q_L g mX12_types 5 0 0 Q 0 0 7 [(0, .ref 102), (1, .ref q), (2, .int y2), (3, .int y3)] [] S := by
  obtain ⟨c, hc⟩ := q_run_it h
  exact lX12_types_7 hq hQ c (y3, S) w hc
set_option maxRecDepth 20000 in
theorem kX12_types {S : QS} {g : QG} {Q : Option Value → QS → Prop} {q : Nat} {x2 : Int32} {r : Bool × QS} (w : q_Wire S) (hq : q_qok q) (h : fX12_types S q x2 = some r) (hQ : Q (some (.int (q_b r.1))) r.2) : q_M g mX12_types 5 0 0 [.ref 102, .ref q, .int x2] S Q := by
  unfold fX12_types at h
  show q_L g mX12_types 5 0 0 Q 0 0 0 [(0, .ref 102), (1, .ref q), (2, .int x2)] [] S
  refine q_aload_n 1 rfl rfl dX12_types_0 ?_
  refine q_getR (q_shQ0 w hq) (by decide) (by decide) rfl lfX12_331 dX12_types_1 (r := (q + 12)) (q_wrQ0_18 w hq) ?_
  refine q_iload_n 2 rfl rfl dX12_types_4 ?_
  obtain ⟨hg41, h⟩ := q_guard h
  refine q_iald (q_shQ12 w hq) (q_inb_in hg41) dX12_types_5 ?_
  refine q_istore_n [(3, .int (S.2.1 (q + 12) x2.toNatClampNeg)), (0, .ref 102), (1, .ref q), (2, .int x2)] rfl (by decide) rfl dX12_types_6 ?_
  refine q_sub [1, 2, 3, 0] rfl ?_
  exact kX12_types_7 w hq h hQ
