set_option maxRecDepth 20000 in
theorem sX12_callStep_141 {g : QG} {Q : Option Value → QS → Prop} {qs : Nat} {q : Nat} {y4 : Int32} {y5 : Int32} {x : Int32 × QS} {z : (QS) ⊕ (Int32 × QS)} (w : q_Wire x.2) (hq : q_qok q) (aM : q_aM x.2 q qs) (h : tX12_callStep_141 q y4 y5 x = some z) (hQ : (Sum.elim (fun r0 : QS => Q none r0) (fun y : Int32 × QS => q_L g mX12_callStep 4 0 0 Q 0 0 141 [(0, .ref 102), (4, .int y4), (5, .int y5), (7, .int y.1)] [] y.2) z)) : q_L g mX12_callStep 4 0 0 Q 0 0 141 [(0, .ref 102), (4, .int y4), (5, .int y5), (7, .int x.1)] [] x.2 := by
  unfold tX12_callStep_141 at h
  refine q_iload 3 rfl dX12_callStep_141 ?_
  refine q_iload 1 rfl dX12_callStep_143 ?_
  refine q_icmp_ge 181 (by decide) dX12_callStep_145 (fun c => ?_) (fun c => ?_)
  · rw [if_pos c] at h
    cases h
    exact q_vret rfl dX12_callStep_181 hQ
  · rw [if_neg c] at h
    refine q_aload_n 0 rfl rfl dX12_callStep_148 ?_
    refine q_getR (q_sh102 w) (by decide) (by decide) rfl lfX12_64 dX12_callStep_149 (r := 172) (q_wr102_24 w) ?_
    refine q_aload_n 0 rfl rfl dX12_callStep_152 ?_
    refine q_getI (q_sh102 w) (by decide) (by decide) rfl lfX12_533 dX12_callStep_153 ?_
    refine q_iconst (v := (1 : Int32)) (by decide) dX12_callStep_156 ?_
    refine q_isub dX12_callStep_157 ?_
    refine q_bipush (v := (12 : Int32)) (by decide) dX12_callStep_158 ?_
    refine q_imul dX12_callStep_160 ?_
    refine q_iload 3 rfl dX12_callStep_161 ?_
    refine q_iadd dX12_callStep_163 ?_
    refine q_aload_n 0 rfl rfl dX12_callStep_164 ?_
    refine q_getR (q_sh102 w) (by decide) (by decide) rfl lfX12_68 dX12_callStep_165 (r := 173) (q_wr102_25 w) ?_
    refine q_iload 2 rfl dX12_callStep_168 ?_
    refine q_iload 3 rfl dX12_callStep_170 ?_
    refine q_iadd dX12_callStep_172 ?_
    obtain ⟨hg1, h⟩ := q_guard h
    refine q_lald (q_sh173 w) (q_inb_in hg1) dX12_callStep_173 ?_
    obtain ⟨hg2, h⟩ := q_guard h
    refine q_last (q_sh172 w) (q_inb_in hg2) dX12_callStep_174 ?_
    obtain ⟨S3, e4, h⟩ := q_bindS h
    refine q_st e4 ?_
    have fx5 : q_Fx x.2 S3 := e4 ▸ q_Fx.sJ (q_Fx.rf x.2)
    refine q_iinc (v := (x.1 + (1 : Int32))) 3 [(7, .int (x.1 + (1 : Int32))), (0, .ref 102), (4, .int y4), (5, .int y5)] (by decide) rfl (congrArg (fun t => x.1 + t) (by decide)) rfl dX12_callStep_175 ?_
    refine q_goto 141 (by decide) dX12_callStep_178 ?_
    refine q_sub [1, 2, 3, 0] rfl ?_
    cases h
    exact hQ
theorem lX12_callStep_141 {g : QG} {Q : Option Value → QS → Prop} {qs : Nat} {q : Nat} {y4 : Int32} {y5 : Int32} {r : QS} (hq : q_qok q) (hQ : Q none r) : ∀ (c : Nat) (x : Int32 × QS), q_Wire x.2 → q_aM x.2 q qs → q_it (tX12_callStep_141 q y4 y5) c x = some r → q_L g mX12_callStep 4 0 0 Q 0 0 141 [(0, .ref 102), (4, .int y4), (5, .int y5), (7, .int x.1)] [] x.2 := by
  intro c
  induction c with
  | zero => intro x w aM h; cases h
  | succ c ih =>
    intro x w aM h
    simp only [q_it] at h
    cases hz : tX12_callStep_141 q y4 y5 x with
    | none => rw [hz] at h; cases h
    | some z =>
      rw [hz] at h
      refine sX12_callStep_141 w hq aM hz ?_
      rcases z with z | y
      · cases h; exact hQ
      · have fz := fxtX12_callStep_141 hz; exact ih y (w.fx fz) (aM.fx fz) h
theorem kX12_callStep_141 {S : QS} {g : QG} {Q : Option Value → QS → Prop} {qs : Nat} {q : Nat} {y4 : Int32} {y5 : Int32} {y7 : Int32} {r : QS} (w : q_Wire S) (hq : q_qok q) (aM : q_aM S q qs) (h : fX12_callStep_141 S q y4 y5 y7 = some r) (hQ : Q none r) : q_L g mX12_callStep 4 0 0 Q 0 0 141 [(0, .ref 102), (4, .int y4), (5, .int y5), (7, .int y7)] [] S := by
  obtain ⟨c, hc⟩ := q_run_it h
  exact lX12_callStep_141 hq hQ c (y7, S) w aM hc
set_option maxRecDepth 20000 in
theorem kX12_callStep_100 {S : QS} {g : QG} {Q : Option Value → QS → Prop} {qs : Nat} {q : Nat} {y3 : Int32} {y4 : Int32} {y5 : Int32} {y6 : Int32} {r : QS} (w : q_Wire S) (hq : q_qok q) (aM : q_aM S q qs) (h : fX12_callStep_100 S q y3 y4 y5 y6 = some r) (hQ : Q none r) : q_L g mX12_callStep 4 0 0 Q 0 0 100 [(0, .ref 102), (3, .int y3), (4, .int y4), (5, .int y5), (6, .int y6)] [] S := by
  unfold fX12_callStep_100 at h
  refine q_aload_n 0 rfl rfl dX12_callStep_100 ?_
  refine q_getI (q_sh102 w) (by decide) (by decide) rfl lfX12_533 dX12_callStep_101 ?_
  refine q_bipush (v := (64 : Int32)) (by decide) dX12_callStep_104 ?_
  refine q_icmp_ne 116 (by decide) dX12_callStep_106 (fun c => ?_) (fun c => ?_)
  · rw [if_neg c] at h
    refine q_aload_n 0 rfl rfl dX12_callStep_116 ?_
    refine q_getR (q_sh102 w) (by decide) (by decide) rfl lfX12_71 dX12_callStep_117 (r := 174) (q_wr102_26 w) ?_
    refine q_aload_n 0 rfl rfl dX12_callStep_120 ?_
    refine q_getI (q_sh102 w) (by decide) (by decide) rfl lfX12_533 dX12_callStep_121 ?_
    refine q_iconst (v := (1 : Int32)) (by decide) dX12_callStep_124 ?_
    refine q_isub dX12_callStep_125 ?_
    refine q_dup2 rfl rfl dX12_callStep_126 ?_
    obtain ⟨hg6, h⟩ := q_guard h
    refine q_iald (q_sh174 w) (q_inb_in hg6) dX12_callStep_127 ?_
    refine q_iload 2 rfl dX12_callStep_128 ?_
    refine q_isub dX12_callStep_130 ?_
    obtain ⟨hg7, h⟩ := q_guard h
    refine q_iast (q_sh174 w) (q_inb_in hg7) dX12_callStep_131 ?_
    obtain ⟨S8, e9, h⟩ := q_bindS h
    refine q_st e9 ?_
    have fx10 : q_Fx S S8 := e9 ▸ q_Fx.sI (q_Fx.rf S)
    refine q_aload_n 0 rfl rfl dX12_callStep_132 ?_
    refine q_iload 4 rfl dX12_callStep_133 ?_
    obtain ⟨r11, e12, h⟩ := q_bind h
    refine q_callV (ci := 12) (d := 3) (Mc := mX12_enter) (kc := 0) (nc := 0) [.int y6] okX12_enter (q_sh102 (w.fx fx10)) (by decide) rfl lmX12_539 inX12_enter seX12_enter rfl (Nat.le_of_ble_eq_true rfl) (Nat.le_of_ble_eq_true rfl) (Nat.le_refl _) (Nat.le_refl _) dX12_callStep_135 (q_L.deep (by decide) (kX12_enter (Q := fun r S' => r = none ∧ S' = r11) (w.fx fx10) hq (aM.fx fx10) e12 ⟨rfl, rfl⟩)) (q_kV ?_)
    have fx13 : q_Fx S r11 := q_Fx.tr (fx10) (fxX12_enter e12)
    refine q_iconst (v := (0 : Int32)) (by decide) dX12_callStep_138 ?_
    refine q_istore [(7, .int (0 : Int32)), (0, .ref 102), (3, .int y3), (4, .int y4), (5, .int y5), (6, .int y6)] (by decide) rfl dX12_callStep_139 ?_
    refine q_sub [1, 3, 4, 0] rfl ?_
    exact kX12_callStep_141 (w.fx fx13) hq (aM.fx fx13) h hQ
  · rw [if_pos c] at h
    refine q_aload_n 0 rfl rfl dX12_callStep_109 ?_
    refine q_iconst (v := (4 : Int32)) (by decide) dX12_callStep_110 ?_
    refine q_iload_n 1 rfl rfl dX12_callStep_111 ?_
    obtain ⟨r14, e15, h⟩ := q_bind h
    refine q_callV (ci := 12) (d := 3) (Mc := mX12_ended) (kc := 0) (nc := 0) [.int (4 : Int32), .int y3] okX12_ended (q_sh102 w) (by decide) rfl lmX12_570 inX12_ended seX12_ended rfl (Nat.le_of_ble_eq_true rfl) (Nat.le_of_ble_eq_true rfl) (Nat.le_refl _) (Nat.le_refl _) dX12_callStep_112 (q_L.deep (by decide) (kX12_ended (Q := fun r S' => r = none ∧ S' = r14) w e15 ⟨rfl, rfl⟩)) (q_kV ?_)
    have fx16 : q_Fx S r14 := q_Fx.tr (q_Fx.rf S) (fxX12_ended e15)
    obtain rfl := Option.some.inj h
    exact q_vret rfl dX12_callStep_115 hQ
set_option maxRecDepth 20000 in
theorem kX12_callStep {S : QS} {g : QG} {Q : Option Value → QS → Prop} {qs : Nat} {q : Nat} {x1 : Int32} {x2 : Int32} {x3 : Int32} {r : QS} (w : q_Wire S) (hq : q_qok q) (aM : q_aM S q qs) (h : fX12_callStep S q x1 x2 x3 = some r) (hQ : Q none r) : q_M g mX12_callStep 4 0 0 [.ref 102, .int x1, .int x2, .int x3] S Q := by
  unfold fX12_callStep at h
  show q_L g mX12_callStep 4 0 0 Q 0 0 0 [(0, .ref 102), (1, .int x1), (2, .int x2), (3, .int x3)] [] S
  refine q_aload_n 0 rfl rfl dX12_callStep_0 ?_
  refine q_getR (q_sh102 w) (by decide) (by decide) rfl lfX12_10 dX12_callStep_1 (r := q) (aM).1 ?_
  refine q_getR (q_shQ0 w hq) (by decide) (by decide) rfl lfX12_313 dX12_callStep_4 (r := (q + 8)) (q_wrQ0_14 w hq) ?_
  refine q_iload_n 2 rfl rfl dX12_callStep_7 ?_
  obtain ⟨hg17, h⟩ := q_guard h
  refine q_iald (q_shQ8 w hq) (q_inb_in hg17) dX12_callStep_8 ?_
  refine q_istore [(4, .int (S.2.1 (q + 8) x2.toNatClampNeg)), (0, .ref 102), (1, .int x1), (2, .int x2), (3, .int x3)] (by decide) rfl dX12_callStep_9 ?_
  refine q_aload_n 1 rfl rfl dX12_callStep_11 ?_
  refine q_getI (q_sh102 w) (by decide) (by decide) rfl lfX12_533 dX12_callStep_12 ?_
  refine q_iconst (v := (1 : Int32)) (by decide) dX12_callStep_15 ?_
  refine q_isub dX12_callStep_16 ?_
  refine q_bipush (v := (8 : Int32)) (by decide) dX12_callStep_17 ?_
  refine q_imul dX12_callStep_19 ?_
  refine q_aload_n 1 rfl rfl dX12_callStep_20 ?_
  refine q_getR (q_sh102 w) (by decide) (by decide) rfl lfX12_71 dX12_callStep_21 (r := 174) (q_wr102_26 w) ?_
  refine q_aload_n 1 rfl rfl dX12_callStep_24 ?_
  refine q_getI (q_sh102 w) (by decide) (by decide) rfl lfX12_533 dX12_callStep_25 ?_
  refine q_iconst (v := (1 : Int32)) (by decide) dX12_callStep_28 ?_
  refine q_isub dX12_callStep_29 ?_
  obtain ⟨hg18, h⟩ := q_guard h
  refine q_iald (q_sh174 w) (q_inb_in hg18) dX12_callStep_30 ?_
  refine q_iadd dX12_callStep_31 ?_
  refine q_iload 0 rfl dX12_callStep_32 ?_
  refine q_isub dX12_callStep_34 ?_
  refine q_istore [(5, .int (((((S.2.1 102 35) - (1 : Int32)) * (8 : Int32)) + (S.2.1 174 ((S.2.1 102 35) - (1 : Int32)).toNatClampNeg)) - (S.2.1 (q + 8) x2.toNatClampNeg))), (4, .int (S.2.1 (q + 8) x2.toNatClampNeg)), (0, .ref 102), (1, .int x1), (2, .int x2), (3, .int x3)] (by decide) rfl dX12_callStep_35 ?_
  refine q_iload_n 4 rfl rfl dX12_callStep_37 ?_
  refine q_istore [(6, .int x2), (5, .int (((((S.2.1 102 35) - (1 : Int32)) * (8 : Int32)) + (S.2.1 174 ((S.2.1 102 35) - (1 : Int32)).toNatClampNeg)) - (S.2.1 (q + 8) x2.toNatClampNeg))), (4, .int (S.2.1 (q + 8) x2.toNatClampNeg)), (0, .ref 102), (1, .int x1), (2, .int x2), (3, .int x3)] (by decide) rfl dX12_callStep_38 ?_
  refine q_iload_n 4 rfl rfl dX12_callStep_40 ?_
  refine q_bipush (v := (40 : Int32)) (by decide) dX12_callStep_41 ?_
  refine q_icmp_ne 100 (by decide) dX12_callStep_43 (fun c => ?_) (fun c => ?_)
  · rw [if_neg c] at h
    refine q_sub [3, 6, 2, 1, 0] rfl ?_
    exact kX12_callStep_100 w hq (aM) h hQ
  · rw [if_pos c] at h
    refine q_aload_n 3 rfl rfl dX12_callStep_46 ?_
    refine q_getR (q_sh102 w) (by decide) (by decide) rfl lfX12_68 dX12_callStep_47 (r := 173) (q_wr102_25 w) ?_
    refine q_iload 1 rfl dX12_callStep_50 ?_
    obtain ⟨hg19, h⟩ := q_guard h
    refine q_lald (q_sh173 w) (q_inb_in hg19) dX12_callStep_52 ?_
    refine q_ldc2 lkX12_553 dX12_callStep_53 ?_
    refine q_lcmp dX12_callStep_56 ?_
    refine q_if_ne 67 (by decide) dX12_callStep_57 (fun c => ?_) (fun c => ?_)
    · rw [if_neg c] at h
      refine q_aload_n 3 rfl rfl dX12_callStep_67 ?_
      refine q_getR (q_sh102 w) (by decide) (by decide) rfl lfX12_10 dX12_callStep_68 (r := q) (aM).1 ?_
      refine q_getR (q_shQ0 w hq) (by decide) (by decide) rfl lfX12_400 dX12_callStep_71 (r := (q + 14)) (q_wrQ0_20 w hq) ?_
      refine q_aload_n 3 rfl rfl dX12_callStep_74 ?_
      refine q_getR (q_sh102 w) (by decide) (by decide) rfl lfX12_77 dX12_callStep_75 (r := 176) (q_wr102_28 w) ?_
      refine q_aload_n 3 rfl rfl dX12_callStep_78 ?_
      refine q_getR (q_sh102 w) (by decide) (by decide) rfl lfX12_68 dX12_callStep_79 (r := 173) (q_wr102_25 w) ?_
      refine q_iload 1 rfl dX12_callStep_82 ?_
      obtain ⟨hg20, h⟩ := q_guard h
      refine q_lald (q_sh173 w) (q_inb_in hg20) dX12_callStep_84 ?_
      obtain ⟨r21, e22, h⟩ := q_bind h
      refine q_callS (d := 3) (Mc := mX12_objectOf) (kc := 0) (nc := 0) [.long (S.2.2.1 173 (((((S.2.1 102 35) - (1 : Int32)) * (8 : Int32)) + (S.2.1 174 ((S.2.1 102 35) - (1 : Int32)).toNatClampNeg)) - (S.2.1 (q + 8) x2.toNatClampNeg)).toNatClampNeg)] okX12_objectOf lmX12_566 inX12_objectOf rfl (Nat.le_of_ble_eq_true rfl) (Nat.le_of_ble_eq_true rfl) (Nat.le_refl _) (Nat.le_refl _) dX12_callStep_85 (q_L.deep (by decide) (kX12_objectOf (Q := fun r S' => r = some (.int r21) ∧ S' = S) w e22 ⟨rfl, rfl⟩)) (q_kI ?_)
      obtain ⟨hg23, h⟩ := q_guard h
      refine q_iald (q_sh176 w) (q_inb_in hg23) dX12_callStep_88 ?_
      refine q_bipush (v := (8 : Int32)) (by decide) dX12_callStep_89 ?_
      refine q_isub dX12_callStep_91 ?_
      refine q_bipush (v := (48 : Int32)) (by decide) dX12_callStep_92 ?_
      refine q_imul dX12_callStep_94 ?_
      refine q_iload_n 5 rfl rfl dX12_callStep_95 ?_
      refine q_iadd dX12_callStep_96 ?_
      obtain ⟨hg24, h⟩ := q_guard h
      refine q_iald (q_shQ14 w hq) (q_inb_in hg24) dX12_callStep_97 ?_
      refine q_istore [(6, .int (S.2.1 (q + 14) ((((S.2.1 176 r21.toNatClampNeg) - (8 : Int32)) * (48 : Int32)) + x2).toNatClampNeg)), (5, .int (((((S.2.1 102 35) - (1 : Int32)) * (8 : Int32)) + (S.2.1 174 ((S.2.1 102 35) - (1 : Int32)).toNatClampNeg)) - (S.2.1 (q + 8) x2.toNatClampNeg))), (4, .int (S.2.1 (q + 8) x2.toNatClampNeg)), (0, .ref 102), (1, .int x1), (2, .int x2), (3, .int x3)] (by decide) rfl dX12_callStep_98 ?_
      refine q_sub [3, 6, 2, 1, 0] rfl ?_
      exact kX12_callStep_100 w hq (aM) h hQ
    · rw [if_pos c] at h
      refine q_aload_n 3 rfl rfl dX12_callStep_60 ?_
      refine q_iconst (v := (0 : Int32)) (by decide) dX12_callStep_61 ?_
      refine q_iload_n 6 rfl rfl dX12_callStep_62 ?_
      obtain ⟨r25, e26, h⟩ := q_bind h
      refine q_callV (ci := 12) (d := 3) (Mc := mX12_raise) (kc := 0) (nc := 0) [.int (0 : Int32), .int x3] okX12_raise (q_sh102 w) (by decide) rfl lmX12_603 inX12_raise seX12_raise rfl (Nat.le_of_ble_eq_true rfl) (Nat.le_of_ble_eq_true rfl) (Nat.le_refl _) (Nat.le_refl _) dX12_callStep_63 (q_L.deep (by decide) (kX12_raise (Q := fun r S' => r = none ∧ S' = r25) w hq (aM) e26 ⟨rfl, rfl⟩)) (q_kV ?_)
      have fx27 : q_Fx S r25 := q_Fx.tr (q_Fx.rf S) (fxX12_raise e26)
      obtain rfl := Option.some.inj h
      exact q_vret rfl dX12_callStep_66 hQ
set_option maxRecDepth 20000 in
theorem kX12_objectStep_287 {S : QS} {g : QG} {Q : Option Value → QS → Prop} {qs : Nat} {q : Nat} {y1 : Int32} {y11 : Int64} {y13 : Int32} {r : QS} (w : q_Wire S) (hq : q_qok q) (aM : q_aM S q qs) (h : fX12_objectStep_287 S q y1 y11 y13 = some r) (hQ : Q none r) : q_L g mX12_objectStep 5 0 0 Q 0 0 287 [(0, .ref 102), (1, .int y1), (11, .long y11), (13, .int y13)] [] S := by
  unfold fX12_objectStep_287 at h
  refine q_aload_n 0 rfl rfl dX12_objectStep_287 ?_
  refine q_iload_n 1 rfl rfl dX12_objectStep_288 ?_
  refine q_bipush (v := (37 : Int32)) (by decide) dX12_objectStep_289 ?_
  obtain ⟨v1, hv, h⟩ := q_bind h
  have K1 : q_L g mX12_objectStep 5 0 0 Q 0 0 309 [(0, .ref 102)] [.long v1, .ref 102] S := by
    obtain ⟨r2, e3, h⟩ := q_bind h
    refine q_callV (ci := 12) (d := 4) (Mc := mX12_push) (kc := 0) (nc := 0) [.long v1] okX12_push (q_sh102 w) (by decide) rfl lmX12_582 inX12_push seX12_push rfl (Nat.le_of_ble_eq_true rfl) (Nat.le_of_ble_eq_true rfl) (Nat.le_refl _) (Nat.le_refl _) dX12_objectStep_309 (q_L.deep (by decide) (kX12_push (Q := fun r S' => r = none ∧ S' = r2) w e3 ⟨rfl, rfl⟩)) (q_kV ?_)
    have fx4 : q_Fx S r2 := q_Fx.tr (q_Fx.rf S) (fxX12_push e3)
    refine q_aload_n 0 rfl rfl dX12_objectStep_312 ?_
    obtain ⟨r5, e6, h⟩ := q_bind h
    refine q_callV (ci := 12) (d := 4) (Mc := mX12_next) (kc := 0) (nc := 0) [] okX12_next (q_sh102 (w.fx fx4)) (by decide) rfl lmX12_600 inX12_next seX12_next rfl (Nat.le_of_ble_eq_true rfl) (Nat.le_of_ble_eq_true rfl) (Nat.le_refl _) (Nat.le_refl _) dX12_objectStep_313 (q_L.deep (by decide) (kX12_next (Q := fun r S' => r = none ∧ S' = r5) (w.fx fx4) e6 ⟨rfl, rfl⟩)) (q_kV ?_)
    have fx7 : q_Fx S r5 := q_Fx.tr (fx4) (fxX12_next e6)
    obtain rfl := Option.some.inj h
    exact q_vret rfl dX12_objectStep_316 hQ
  replace h := hv
  refine q_icmp_ne 299 (by decide) dX12_objectStep_291 (fun c => ?_) (fun c => ?_)
  · rw [if_neg c] at h
    refine q_iload 3 rfl dX12_objectStep_299 ?_
    refine q_if_eq 308 (by decide) dX12_objectStep_301 (fun c => ?_) (fun c => ?_)
    · rw [if_pos c] at h
      refine q_lconst (v := (0 : Int64)) (by decide) dX12_objectStep_308 ?_
      obtain rfl := Option.some.inj h
      refine q_sub [0] rfl ?_
      exact K1
    · rw [if_neg c] at h
      refine q_lconst (v := (1 : Int64)) (by decide) dX12_objectStep_304 ?_
      refine q_goto 309 (by decide) dX12_objectStep_305 ?_
      obtain rfl := Option.some.inj h
      refine q_sub [0] rfl ?_
      exact K1
  · rw [if_pos c] at h
    refine q_lload 2 rfl dX12_objectStep_294 ?_
    refine q_goto 309 (by decide) dX12_objectStep_296 ?_
    obtain rfl := Option.some.inj h
    refine q_sub [0] rfl ?_
    exact K1
set_option maxRecDepth 20000 in
theorem kX12_objectStep {S : QS} {g : QG} {Q : Option Value → QS → Prop} {qs : Nat} {q : Nat} {x1 : Int32} {x2 : Int32} {x3 : Int32} {r : QS} (w : q_Wire S) (hq : q_qok q) (aM : q_aM S q qs) (h : fX12_objectStep S q x1 x2 x3 = some r) (hQ : Q none r) : q_M g mX12_objectStep 5 0 0 [.ref 102, .int x1, .int x2, .int x3] S Q := by
  unfold fX12_objectStep at h
  show q_L g mX12_objectStep 5 0 0 Q 0 0 0 [(0, .ref 102), (1, .int x1), (2, .int x2), (3, .int x3)] [] S
  refine q_iload_n 1 rfl rfl dX12_objectStep_0 ?_
  by_cases c8 : x1 = (30 : Int32) ∨ x1 = (31 : Int32)
  · rw [if_pos c8] at h
    have K : ∀ (hK : True), q_L g mX12_objectStep 5 0 0 Q 0 0 64 [(0, .ref 102), (1, .int x1), (2, .int x2), (3, .int x3)] [] S := by
      intro _
      refine q_aload_n 0 rfl rfl dX12_objectStep_64 ?_
      refine q_iload_n 1 rfl rfl dX12_objectStep_65 ?_
      refine q_iload_n 2 rfl rfl dX12_objectStep_66 ?_
      refine q_iload_n 3 rfl rfl dX12_objectStep_67 ?_
      obtain ⟨r9, e10, h⟩ := q_bind h
      refine q_callV (ci := 12) (d := 4) (Mc := mX12_make) (kc := 0) (nc := 0) [.int x1, .int x2, .int x3] okX12_make (q_sh102 w) (by decide) rfl lmX12_606 inX12_make seX12_make rfl (Nat.le_of_ble_eq_true rfl) (Nat.le_of_ble_eq_true rfl) (Nat.le_refl _) (Nat.le_refl _) dX12_objectStep_68 (q_L.deep (by decide) (kX12_make (Q := fun r S' => r = none ∧ S' = r9) w hq (aM) e10 ⟨rfl, rfl⟩)) (q_kV ?_)
      have fx11 : q_Fx S r9 := q_Fx.tr (q_Fx.rf S) (fxX12_make e10)
      obtain rfl := Option.some.inj h
      exact q_vret rfl dX12_objectStep_71 hQ
    rcases c8 with c8 | c8
    · exact q_tabIn (M := mX12_objectStep) (pc := 1) (x := x1) 64 (by rw [c8]; decide) (by rw [c8]; decide) (by rw [c8]; rfl) (by decide) dX12_objectStep_1 (K trivial)
    · exact q_tabIn (M := mX12_objectStep) (pc := 1) (x := x1) 64 (by rw [c8]; decide) (by rw [c8]; decide) (by rw [c8]; rfl) (by decide) dX12_objectStep_1 (K trivial)
  rw [if_neg c8] at h
  by_cases c12 : x1 = (32 : Int32)
  · rw [if_pos c12] at h
    refine q_tabIn (M := mX12_objectStep) (pc := 1) (x := x1) 72 (by rw [c12]; decide) (by rw [c12]; decide) (by rw [c12]; rfl) (by decide) dX12_objectStep_1 ?_
    refine q_aload_n 0 rfl rfl dX12_objectStep_72 ?_
    obtain ⟨r13, e14, h⟩ := q_bind h
    refine q_callV (ci := 12) (d := 4) (Mc := mX12_pop) (kc := 0) (nc := 0) [] okX12_pop (q_sh102 w) (by decide) rfl lmX12_586 inX12_pop seX12_pop rfl (Nat.le_of_ble_eq_true rfl) (Nat.le_of_ble_eq_true rfl) (Nat.le_refl _) (Nat.le_refl _) dX12_objectStep_73 (q_L.deep (by decide) (kX12_pop (Q := fun r S' => r = some (.long r13.1) ∧ S' = r13.2) w e14 ⟨rfl, rfl⟩)) (q_kJ ?_)
    have fx15 : q_Fx S r13.2 := q_Fx.tr (q_Fx.rf S) (fxX12_pop e14)
    refine q_lstore [(4, .long r13.1), (0, .ref 102), (1, .int x1), (2, .int x2), (3, .int x3)] (by decide) rfl dX12_objectStep_76 ?_
    refine q_lload 0 rfl dX12_objectStep_78 ?_
    refine q_ldc2 lkX12_553 dX12_objectStep_80 ?_
    refine q_lcmp dX12_objectStep_83 ?_
    refine q_if_ne 96 (by decide) dX12_objectStep_84 (fun c => ?_) (fun c => ?_)
    · rw [if_neg c] at h
      refine q_aload_n 1 rfl rfl dX12_objectStep_96 ?_
      refine q_aload_n 1 rfl rfl dX12_objectStep_97 ?_
      refine q_getR (q_sh102 (w.fx fx15)) (by decide) (by decide) rfl lfX12_86 dX12_objectStep_98 (r := 179) (q_wr102_31 (w.fx fx15)) ?_
      refine q_lload 0 rfl dX12_objectStep_101 ?_
      obtain ⟨r16, e17, h⟩ := q_bind h
      refine q_callS (d := 4) (Mc := mX12_objectOf) (kc := 0) (nc := 0) [.long r13.1] okX12_objectOf lmX12_566 inX12_objectOf rfl (Nat.le_of_ble_eq_true rfl) (Nat.le_of_ble_eq_true rfl) (Nat.le_refl _) (Nat.le_refl _) dX12_objectStep_103 (q_L.deep (by decide) (kX12_objectOf (Q := fun r S' => r = some (.int r16) ∧ S' = r13.2) (w.fx fx15) e17 ⟨rfl, rfl⟩)) (q_kI ?_)
      obtain ⟨hg18, h⟩ := q_guard h
      refine q_iald (q_sh179 (w.fx fx15)) (q_inb_in hg18) dX12_objectStep_106 ?_
      refine q_i2l dX12_objectStep_107 ?_
      obtain ⟨r19, e20, h⟩ := q_bind h
      refine q_callV (ci := 12) (d := 4) (Mc := mX12_push) (kc := 0) (nc := 0) [.long (r13.2.2.1 179 r16.toNatClampNeg).toInt64] okX12_push (q_sh102 (w.fx fx15)) (by decide) rfl lmX12_582 inX12_push seX12_push rfl (Nat.le_of_ble_eq_true rfl) (Nat.le_of_ble_eq_true rfl) (Nat.le_refl _) (Nat.le_refl _) dX12_objectStep_108 (q_L.deep (by decide) (kX12_push (Q := fun r S' => r = none ∧ S' = r19) (w.fx fx15) e20 ⟨rfl, rfl⟩)) (q_kV ?_)
      have fx21 : q_Fx S r19 := q_Fx.tr (fx15) (fxX12_push e20)
      refine q_aload_n 1 rfl rfl dX12_objectStep_111 ?_
      obtain ⟨r22, e23, h⟩ := q_bind h
      refine q_callV (ci := 12) (d := 4) (Mc := mX12_next) (kc := 0) (nc := 0) [] okX12_next (q_sh102 (w.fx fx21)) (by decide) rfl lmX12_600 inX12_next seX12_next rfl (Nat.le_of_ble_eq_true rfl) (Nat.le_of_ble_eq_true rfl) (Nat.le_refl _) (Nat.le_refl _) dX12_objectStep_112 (q_L.deep (by decide) (kX12_next (Q := fun r S' => r = none ∧ S' = r22) (w.fx fx21) e23 ⟨rfl, rfl⟩)) (q_kV ?_)
      have fx24 : q_Fx S r22 := q_Fx.tr (fx21) (fxX12_next e23)
      obtain rfl := Option.some.inj h
      exact q_vret rfl dX12_objectStep_115 hQ
    · rw [if_pos c] at h
      refine q_aload_n 1 rfl rfl dX12_objectStep_87 ?_
      refine q_iconst (v := (0 : Int32)) (by decide) dX12_objectStep_88 ?_
      refine q_iload_n 4 rfl rfl dX12_objectStep_89 ?_
      obtain ⟨r25, e26, h⟩ := q_bind h
      refine q_callV (ci := 12) (d := 4) (Mc := mX12_raise) (kc := 0) (nc := 0) [.int (0 : Int32), .int x3] okX12_raise (q_sh102 (w.fx fx15)) (by decide) rfl lmX12_603 inX12_raise seX12_raise rfl (Nat.le_of_ble_eq_true rfl) (Nat.le_of_ble_eq_true rfl) (Nat.le_refl _) (Nat.le_refl _) dX12_objectStep_90 (q_L.deep (by decide) (kX12_raise (Q := fun r S' => r = none ∧ S' = r25) (w.fx fx15) hq (aM.fx fx15) e26 ⟨rfl, rfl⟩)) (q_kV ?_)
      have fx27 : q_Fx S r25 := q_Fx.tr (fx15) (fxX12_raise e26)
      refine q_goto 115 (by decide) dX12_objectStep_93 ?_
      obtain rfl := Option.some.inj h
      exact q_vret rfl dX12_objectStep_115 hQ
  rw [if_neg c12] at h
  by_cases c28 : x1 = (33 : Int32) ∨ x1 = (34 : Int32)
  · rw [if_pos c28] at h
    have K : ∀ (hK : True), q_L g mX12_objectStep 5 0 0 Q 0 0 116 [(0, .ref 102), (1, .int x1), (2, .int x2), (3, .int x3)] [] S := by
      intro _
      refine q_aload_n 0 rfl rfl dX12_objectStep_116 ?_
      refine q_iload_n 1 rfl rfl dX12_objectStep_117 ?_
      refine q_iload_n 3 rfl rfl dX12_objectStep_118 ?_
      obtain ⟨r29, e30, h⟩ := q_bind h
      refine q_callV (ci := 12) (d := 4) (Mc := mX12_elementStep) (kc := 0) (nc := 0) [.int x1, .int x3] okX12_elementStep (q_sh102 w) (by decide) rfl lmX12_609 inX12_elementStep seX12_elementStep rfl (Nat.le_of_ble_eq_true rfl) (Nat.le_of_ble_eq_true rfl) (Nat.le_refl _) (Nat.le_refl _) dX12_objectStep_119 (q_L.deep (by decide) (kX12_elementStep (Q := fun r S' => r = none ∧ S' = r29) w hq (aM) e30 ⟨rfl, rfl⟩)) (q_kV ?_)
      have fx31 : q_Fx S r29 := q_Fx.tr (q_Fx.rf S) (fxX12_elementStep e30)
      obtain rfl := Option.some.inj h
      exact q_vret rfl dX12_objectStep_122 hQ
    rcases c28 with c28 | c28
    · exact q_tabIn (M := mX12_objectStep) (pc := 1) (x := x1) 116 (by rw [c28]; decide) (by rw [c28]; decide) (by rw [c28]; rfl) (by decide) dX12_objectStep_1 (K trivial)
    · exact q_tabIn (M := mX12_objectStep) (pc := 1) (x := x1) 116 (by rw [c28]; decide) (by rw [c28]; decide) (by rw [c28]; rfl) (by decide) dX12_objectStep_1 (K trivial)
  rw [if_neg c28] at h
  by_cases c32 : x1 = (35 : Int32) ∨ x1 = (36 : Int32)
  · rw [if_pos c32] at h
    have K : ∀ (hK : True), q_L g mX12_objectStep 5 0 0 Q 0 0 123 [(0, .ref 102), (1, .int x1), (2, .int x2), (3, .int x3)] [] S := by
      intro _
      refine q_iload_n 1 rfl rfl dX12_objectStep_123 ?_
      refine q_bipush (v := (36 : Int32)) (by decide) dX12_objectStep_124 ?_
      obtain ⟨v36, hv, h⟩ := q_bind h
      have fx37 : q_Fx S v36.2 := by
        replace h := hv
        by_cases c : x1 = (36 : Int32)
        · rw [if_pos c] at h
          obtain ⟨r33, e34, h⟩ := q_bind h
          have fx35 : q_Fx S r33.2 := q_Fx.tr (q_Fx.rf S) (fxX12_pop e34)
          obtain rfl := Option.some.inj h
          exact fx35
        · rw [if_neg c] at h
          obtain rfl := Option.some.inj h
          exact q_Fx.rf _
      have K2 : q_L g mX12_objectStep 5 0 0 Q 0 0 137 [(0, .ref 102), (1, .int x1), (2, .int x2), (3, .int x3)] [.long v36.1] v36.2 := by
        refine q_lstore [(6, .long v36.1), (0, .ref 102), (1, .int x1), (2, .int x2), (3, .int x3)] (by decide) rfl dX12_objectStep_137 ?_
        refine q_aload_n 1 rfl rfl dX12_objectStep_139 ?_
        obtain ⟨r38, e39, h⟩ := q_bind h
        refine q_callV (ci := 12) (d := 4) (Mc := mX12_pop) (kc := 0) (nc := 0) [] okX12_pop (q_sh102 (w.fx fx37)) (by decide) rfl lmX12_586 inX12_pop seX12_pop rfl (Nat.le_of_ble_eq_true rfl) (Nat.le_of_ble_eq_true rfl) (Nat.le_refl _) (Nat.le_refl _) dX12_objectStep_140 (q_L.deep (by decide) (kX12_pop (Q := fun r S' => r = some (.long r38.1) ∧ S' = r38.2) (w.fx fx37) e39 ⟨rfl, rfl⟩)) (q_kJ ?_)
        have fx40 : q_Fx S r38.2 := q_Fx.tr (fx37) (fxX12_pop e39)
        refine q_lstore [(8, .long r38.1), (6, .long v36.1), (0, .ref 102), (1, .int x1), (2, .int x2), (3, .int x3)] (by decide) rfl dX12_objectStep_143 ?_
        refine q_lload 0 rfl dX12_objectStep_145 ?_
        refine q_ldc2 lkX12_553 dX12_objectStep_147 ?_
        refine q_lcmp dX12_objectStep_150 ?_
        refine q_if_ne 161 (by decide) dX12_objectStep_151 (fun c => ?_) (fun c => ?_)
        · rw [if_neg c] at h
          refine q_aload_n 2 rfl rfl dX12_objectStep_161 ?_
          refine q_getR (q_sh102 (w.fx fx40)) (by decide) (by decide) rfl lfX12_83 dX12_objectStep_162 (r := 178) (q_wr102_30 (w.fx fx40)) ?_
          refine q_lload 0 rfl dX12_objectStep_165 ?_
          obtain ⟨r41, e42, h⟩ := q_bind h
          refine q_callS (d := 4) (Mc := mX12_objectOf) (kc := 0) (nc := 0) [.long r38.1] okX12_objectOf lmX12_566 inX12_objectOf rfl (Nat.le_of_ble_eq_true rfl) (Nat.le_of_ble_eq_true rfl) (Nat.le_refl _) (Nat.le_refl _) dX12_objectStep_167 (q_L.deep (by decide) (kX12_objectOf (Q := fun r S' => r = some (.int r41) ∧ S' = r38.2) (w.fx fx40) e42 ⟨rfl, rfl⟩)) (q_kI ?_)
          obtain ⟨hg43, h⟩ := q_guard h
          refine q_iald (q_sh178 (w.fx fx40)) (q_inb_in hg43) dX12_objectStep_170 ?_
          refine q_aload_n 2 rfl rfl dX12_objectStep_171 ?_
          refine q_getR (q_sh102 (w.fx fx40)) (by decide) (by decide) rfl lfX12_10 dX12_objectStep_172 (r := q) (aM.fx fx40).1 ?_
          refine q_getR (q_shQ0 (w.fx fx40) hq) (by decide) (by decide) rfl lfX12_397 dX12_objectStep_175 (r := (q + 5)) (q_wrQ0_11 (w.fx fx40) hq) ?_
          refine q_iload_n 4 rfl rfl dX12_objectStep_178 ?_
          obtain ⟨hg44, h⟩ := q_guard h
          refine q_iald (q_shQ5 (w.fx fx40) hq) (q_inb_in hg44) dX12_objectStep_179 ?_
          refine q_iadd dX12_objectStep_180 ?_
          refine q_istore [(10, .int ((r38.2.2.1 178 r41.toNatClampNeg) + (r38.2.2.1 (q + 5) x2.toNatClampNeg))), (8, .long r38.1), (6, .long v36.1), (0, .ref 102), (1, .int x1), (2, .int x2), (3, .int x3)] (by decide) rfl dX12_objectStep_181 ?_
          refine q_iload_n 4 rfl rfl dX12_objectStep_183 ?_
          refine q_bipush (v := (36 : Int32)) (by decide) dX12_objectStep_184 ?_
          refine q_icmp_ne 201 (by decide) dX12_objectStep_186 (fun c => ?_) (fun c => ?_)
          · rw [if_neg c] at h
            refine q_aload_n 3 rfl rfl dX12_objectStep_201 ?_
            refine q_aload_n 3 rfl rfl dX12_objectStep_202 ?_
            refine q_getR (q_sh102 (w.fx fx40)) (by decide) (by decide) rfl lfX12_89 dX12_objectStep_203 (r := 180) (q_wr102_32 (w.fx fx40)) ?_
            refine q_iload 0 rfl dX12_objectStep_206 ?_
            obtain ⟨hg45, h⟩ := q_guard h
            refine q_lald (q_sh180 (w.fx fx40)) (q_inb_in hg45) dX12_objectStep_208 ?_
            obtain ⟨r46, e47, h⟩ := q_bind h
            refine q_callV (ci := 12) (d := 4) (Mc := mX12_push) (kc := 0) (nc := 0) [.long (r38.2.2.2.1 180 ((r38.2.2.1 178 r41.toNatClampNeg) + (r38.2.2.1 (q + 5) x2.toNatClampNeg)).toNatClampNeg)] okX12_push (q_sh102 (w.fx fx40)) (by decide) rfl lmX12_582 inX12_push seX12_push rfl (Nat.le_of_ble_eq_true rfl) (Nat.le_of_ble_eq_true rfl) (Nat.le_refl _) (Nat.le_refl _) dX12_objectStep_209 (q_L.deep (by decide) (kX12_push (Q := fun r S' => r = none ∧ S' = r46) (w.fx fx40) e47 ⟨rfl, rfl⟩)) (q_kV ?_)
            have fx48 : q_Fx S r46 := q_Fx.tr (fx40) (fxX12_push e47)
            refine q_aload_n 3 rfl rfl dX12_objectStep_212 ?_
            obtain ⟨r49, e50, h⟩ := q_bind h
            refine q_callV (ci := 12) (d := 4) (Mc := mX12_next) (kc := 0) (nc := 0) [] okX12_next (q_sh102 (w.fx fx48)) (by decide) rfl lmX12_600 inX12_next seX12_next rfl (Nat.le_of_ble_eq_true rfl) (Nat.le_of_ble_eq_true rfl) (Nat.le_refl _) (Nat.le_refl _) dX12_objectStep_213 (q_L.deep (by decide) (kX12_next (Q := fun r S' => r = none ∧ S' = r49) (w.fx fx48) e50 ⟨rfl, rfl⟩)) (q_kV ?_)
            have fx51 : q_Fx S r49 := q_Fx.tr (fx48) (fxX12_next e50)
            obtain rfl := Option.some.inj h
            exact q_vret rfl dX12_objectStep_216 hQ
          · rw [if_pos c] at h
            refine q_aload_n 3 rfl rfl dX12_objectStep_189 ?_
            refine q_getR (q_sh102 (w.fx fx40)) (by decide) (by decide) rfl lfX12_89 dX12_objectStep_190 (r := 180) (q_wr102_32 (w.fx fx40)) ?_
            refine q_iload 0 rfl dX12_objectStep_193 ?_
            refine q_lload 2 rfl dX12_objectStep_195 ?_
            obtain ⟨hg52, h⟩ := q_guard h
            refine q_last (q_sh180 (w.fx fx40)) (q_inb_in hg52) dX12_objectStep_197 ?_
            obtain ⟨S53, e54, h⟩ := q_bindS h
            refine q_st e54 ?_
            have fx55 : q_Fx S S53 := e54 ▸ q_Fx.sJ (fx40)
            refine q_goto 212 (by decide) dX12_objectStep_198 ?_
            refine q_aload_n 3 rfl rfl dX12_objectStep_212 ?_
            obtain ⟨r56, e57, h⟩ := q_bind h
            refine q_callV (ci := 12) (d := 4) (Mc := mX12_next) (kc := 0) (nc := 0) [] okX12_next (q_sh102 (w.fx fx55)) (by decide) rfl lmX12_600 inX12_next seX12_next rfl (Nat.le_of_ble_eq_true rfl) (Nat.le_of_ble_eq_true rfl) (Nat.le_refl _) (Nat.le_refl _) dX12_objectStep_213 (q_L.deep (by decide) (kX12_next (Q := fun r S' => r = none ∧ S' = r56) (w.fx fx55) e57 ⟨rfl, rfl⟩)) (q_kV ?_)
            have fx58 : q_Fx S r56 := q_Fx.tr (fx55) (fxX12_next e57)
            obtain rfl := Option.some.inj h
            exact q_vret rfl dX12_objectStep_216 hQ
        · rw [if_pos c] at h
          refine q_aload_n 2 rfl rfl dX12_objectStep_154 ?_
          refine q_iconst (v := (0 : Int32)) (by decide) dX12_objectStep_155 ?_
          refine q_iload_n 5 rfl rfl dX12_objectStep_156 ?_
          obtain ⟨r59, e60, h⟩ := q_bind h
          refine q_callV (ci := 12) (d := 4) (Mc := mX12_raise) (kc := 0) (nc := 0) [.int (0 : Int32), .int x3] okX12_raise (q_sh102 (w.fx fx40)) (by decide) rfl lmX12_603 inX12_raise seX12_raise rfl (Nat.le_of_ble_eq_true rfl) (Nat.le_of_ble_eq_true rfl) (Nat.le_refl _) (Nat.le_refl _) dX12_objectStep_157 (q_L.deep (by decide) (kX12_raise (Q := fun r S' => r = none ∧ S' = r59) (w.fx fx40) hq (aM.fx fx40) e60 ⟨rfl, rfl⟩)) (q_kV ?_)
          have fx61 : q_Fx S r59 := q_Fx.tr (fx40) (fxX12_raise e60)
          obtain rfl := Option.some.inj h
          exact q_vret rfl dX12_objectStep_160 hQ
      replace h := hv
      refine q_icmp_ne 136 (by decide) dX12_objectStep_126 (fun c => ?_) (fun c => ?_)
      · rw [if_neg c] at h
        refine q_lconst (v := (0 : Int64)) (by decide) dX12_objectStep_136 ?_
        obtain rfl := Option.some.inj h
        refine q_sub [0, 1, 2, 3] rfl ?_
        exact K2
      · rw [if_pos c] at h
        refine q_aload_n 0 rfl rfl dX12_objectStep_129 ?_
        obtain ⟨r33, e34, h⟩ := q_bind h
        refine q_callV (ci := 12) (d := 4) (Mc := mX12_pop) (kc := 0) (nc := 0) [] okX12_pop (q_sh102 w) (by decide) rfl lmX12_586 inX12_pop seX12_pop rfl (Nat.le_of_ble_eq_true rfl) (Nat.le_of_ble_eq_true rfl) (Nat.le_refl _) (Nat.le_refl _) dX12_objectStep_130 (q_L.deep (by decide) (kX12_pop (Q := fun r S' => r = some (.long r33.1) ∧ S' = r33.2) w e34 ⟨rfl, rfl⟩)) (q_kJ ?_)
        have fx35 : q_Fx S r33.2 := q_Fx.tr (q_Fx.rf S) (fxX12_pop e34)
        refine q_goto 137 (by decide) dX12_objectStep_133 ?_
        obtain rfl := Option.some.inj h
        refine q_sub [0, 1, 2, 3] rfl ?_
        exact K2
    rcases c32 with c32 | c32
    · exact q_tabIn (M := mX12_objectStep) (pc := 1) (x := x1) 123 (by rw [c32]; decide) (by rw [c32]; decide) (by rw [c32]; rfl) (by decide) dX12_objectStep_1 (K trivial)
    · exact q_tabIn (M := mX12_objectStep) (pc := 1) (x := x1) 123 (by rw [c32]; decide) (by rw [c32]; decide) (by rw [c32]; rfl) (by decide) dX12_objectStep_1 (K trivial)
  rw [if_neg c32] at h
  by_cases c62 : x1 = (37 : Int32) ∨ x1 = (38 : Int32)
  · rw [if_pos c62] at h
    have K : ∀ (hK : True), q_L g mX12_objectStep 5 0 0 Q 0 0 217 [(0, .ref 102), (1, .int x1), (2, .int x2), (3, .int x3)] [] S := by
      intro _
      refine q_aload_n 0 rfl rfl dX12_objectStep_217 ?_
      obtain ⟨r63, e64, h⟩ := q_bind h
      refine q_callV (ci := 12) (d := 4) (Mc := mX12_pop) (kc := 0) (nc := 0) [] okX12_pop (q_sh102 w) (by decide) rfl lmX12_586 inX12_pop seX12_pop rfl (Nat.le_of_ble_eq_true rfl) (Nat.le_of_ble_eq_true rfl) (Nat.le_refl _) (Nat.le_refl _) dX12_objectStep_218 (q_L.deep (by decide) (kX12_pop (Q := fun r S' => r = some (.long r63.1) ∧ S' = r63.2) w e64 ⟨rfl, rfl⟩)) (q_kJ ?_)
      have fx65 : q_Fx S r63.2 := q_Fx.tr (q_Fx.rf S) (fxX12_pop e64)
      refine q_lstore [(11, .long r63.1), (0, .ref 102), (1, .int x1), (2, .int x2), (3, .int x3)] (by decide) rfl dX12_objectStep_221 ?_
      refine q_lload 0 rfl dX12_objectStep_223 ?_
      refine q_ldc2 lkX12_553 dX12_objectStep_225 ?_
      refine q_lcmp dX12_objectStep_228 ?_
      obtain ⟨v71, hv, h⟩ := q_bind h
      have K3 : q_L g mX12_objectStep 5 0 0 Q 0 0 258 [(0, .ref 102), (1, .int x1), (3, .int x3), (11, .long r63.1)] [.int (q_b v71)] r63.2 := by
        refine q_istore [(13, .int (q_b v71)), (0, .ref 102), (1, .int x1), (3, .int x3), (11, .long r63.1)] (by decide) rfl dX12_objectStep_258 ?_
        refine q_iload_n 2 rfl rfl dX12_objectStep_260 ?_
        refine q_bipush (v := (37 : Int32)) (by decide) dX12_objectStep_261 ?_
        refine q_icmp_ne 287 (by decide) dX12_objectStep_263 (fun c => ?_) (fun c => ?_)
        · rw [if_neg c] at h
          refine q_sub [1, 2, 4, 0] rfl ?_
          exact kX12_objectStep_287 (w.fx fx65) hq (aM.fx fx65) h hQ
        · rw [if_pos c] at h
          refine q_lload 4 rfl dX12_objectStep_266 ?_
          refine q_ldc2 lkX12_553 dX12_objectStep_268 ?_
          refine q_lcmp dX12_objectStep_271 ?_
          refine q_if_eq 287 (by decide) dX12_objectStep_272 (fun c => ?_) (fun c => ?_)
          · rw [if_pos c] at h
            refine q_sub [1, 2, 4, 0] rfl ?_
            exact kX12_objectStep_287 (w.fx fx65) hq (aM.fx fx65) h hQ
          · rw [if_neg c] at h
            refine q_iload 0 rfl dX12_objectStep_275 ?_
            refine q_if_ne 287 (by decide) dX12_objectStep_277 (fun c => ?_) (fun c => ?_)
            · have c := q_b_n.mp c; rw [q_if1 c] at h
              refine q_sub [1, 2, 4, 0] rfl ?_
              exact kX12_objectStep_287 (w.fx fx65) hq (aM.fx fx65) h hQ
            · have c := q_b_0.mp c; rw [q_if0 c] at h
              refine q_aload_n 1 rfl rfl dX12_objectStep_280 ?_
              refine q_iconst (v := (4 : Int32)) (by decide) dX12_objectStep_281 ?_
              refine q_iload_n 3 rfl rfl dX12_objectStep_282 ?_
              obtain ⟨r72, e73, h⟩ := q_bind h
              refine q_callV (ci := 12) (d := 4) (Mc := mX12_raise) (kc := 0) (nc := 0) [.int (4 : Int32), .int x3] okX12_raise (q_sh102 (w.fx fx65)) (by decide) rfl lmX12_603 inX12_raise seX12_raise rfl (Nat.le_of_ble_eq_true rfl) (Nat.le_of_ble_eq_true rfl) (Nat.le_refl _) (Nat.le_refl _) dX12_objectStep_283 (q_L.deep (by decide) (kX12_raise (Q := fun r S' => r = none ∧ S' = r72) (w.fx fx65) hq (aM.fx fx65) e73 ⟨rfl, rfl⟩)) (q_kV ?_)
              have fx74 : q_Fx S r72 := q_Fx.tr (fx65) (fxX12_raise e73)
              obtain rfl := Option.some.inj h
              exact q_vret rfl dX12_objectStep_286 hQ
      replace h := hv
      refine q_if_eq 257 (by decide) dX12_objectStep_229 (fun c => ?_) (fun c => ?_)
      · rw [if_pos c] at h
        refine q_iconst (v := (0 : Int32)) (by decide) dX12_objectStep_257 ?_
        obtain rfl := Option.some.inj h
        refine q_sub [1, 2, 4, 0] rfl ?_
        exact K3
      · rw [if_neg c] at h
        refine q_aload_n 1 rfl rfl dX12_objectStep_232 ?_
        refine q_getR (q_sh102 (w.fx fx65)) (by decide) (by decide) rfl lfX12_10 dX12_objectStep_233 (r := q) (aM.fx fx65).1 ?_
        refine q_aload_n 1 rfl rfl dX12_objectStep_236 ?_
        refine q_getR (q_sh102 (w.fx fx65)) (by decide) (by decide) rfl lfX12_77 dX12_objectStep_237 (r := 176) (q_wr102_28 (w.fx fx65)) ?_
        refine q_lload 0 rfl dX12_objectStep_240 ?_
        obtain ⟨r66, e67, h⟩ := q_bind h
        refine q_callS (d := 4) (Mc := mX12_objectOf) (kc := 0) (nc := 0) [.long r63.1] okX12_objectOf lmX12_566 inX12_objectOf rfl (Nat.le_of_ble_eq_true rfl) (Nat.le_of_ble_eq_true rfl) (Nat.le_refl _) (Nat.le_refl _) dX12_objectStep_242 (q_L.deep (by decide) (kX12_objectOf (Q := fun r S' => r = some (.int r66) ∧ S' = r63.2) (w.fx fx65) e67 ⟨rfl, rfl⟩)) (q_kI ?_)
        obtain ⟨hg68, h⟩ := q_guard h
        refine q_iald (q_sh176 (w.fx fx65)) (q_inb_in hg68) dX12_objectStep_245 ?_
        refine q_iload_n 3 rfl rfl dX12_objectStep_246 ?_
        obtain ⟨r69, e70, h⟩ := q_bind h
        refine q_callS (d := 4) (Mc := mX12_isBelow) (kc := 0) (nc := 0) [.ref q, .int (r63.2.2.1 176 r66.toNatClampNeg), .int x2] okX12_isBelow lmX12_436 inX12_isBelow rfl (Nat.le_of_ble_eq_true rfl) (Nat.le_of_ble_eq_true rfl) (Nat.le_refl _) (Nat.le_refl _) dX12_objectStep_247 (q_L.deep (by decide) (kX12_isBelow (Q := fun r S' => r = some (.int (q_b r69)) ∧ S' = r63.2) (w.fx fx65) hq e70 ⟨rfl, rfl⟩)) (q_kI ?_)
        refine q_if_eq 257 (by decide) dX12_objectStep_250 (fun c => ?_) (fun c => ?_)
        · have c := q_b_0.mp c; rw [q_if0 c] at h
          refine q_iconst (v := (0 : Int32)) (by decide) dX12_objectStep_257 ?_
          obtain rfl := Option.some.inj h
          refine q_sub [1, 2, 4, 0] rfl ?_
          exact K3
        · have c := q_b_n.mp c; rw [q_if1 c] at h
          refine q_iconst (v := (1 : Int32)) (by decide) dX12_objectStep_253 ?_
          refine q_goto 258 (by decide) dX12_objectStep_254 ?_
          obtain rfl := Option.some.inj h
          refine q_sub [1, 2, 4, 0] rfl ?_
          exact K3
    rcases c62 with c62 | c62
    · exact q_tabIn (M := mX12_objectStep) (pc := 1) (x := x1) 217 (by rw [c62]; decide) (by rw [c62]; decide) (by rw [c62]; rfl) (by decide) dX12_objectStep_1 (K trivial)
    · exact q_tabIn (M := mX12_objectStep) (pc := 1) (x := x1) 217 (by rw [c62]; decide) (by rw [c62]; decide) (by rw [c62]; rfl) (by decide) dX12_objectStep_1 (K trivial)
  rw [if_neg c62] at h
  by_cases c75 : x1 = (39 : Int32) ∨ x1 = (40 : Int32)
  · rw [if_pos c75] at h
    have K : ∀ (hK : True), q_L g mX12_objectStep 5 0 0 Q 0 0 317 [(0, .ref 102), (1, .int x1), (2, .int x2), (3, .int x3)] [] S := by
      intro _
      refine q_aload_n 0 rfl rfl dX12_objectStep_317 ?_
      refine q_iload_n 1 rfl rfl dX12_objectStep_318 ?_
      refine q_iload_n 2 rfl rfl dX12_objectStep_319 ?_
      refine q_iload_n 3 rfl rfl dX12_objectStep_320 ?_
      obtain ⟨r76, e77, h⟩ := q_bind h
      refine q_callV (ci := 12) (d := 4) (Mc := mX12_callStep) (kc := 0) (nc := 0) [.int x1, .int x2, .int x3] okX12_callStep (q_sh102 w) (by decide) rfl lmX12_612 inX12_callStep seX12_callStep rfl (Nat.le_of_ble_eq_true rfl) (Nat.le_of_ble_eq_true rfl) (Nat.le_refl _) (Nat.le_refl _) dX12_objectStep_321 (q_L.deep (by decide) (kX12_callStep (Q := fun r S' => r = none ∧ S' = r76) w hq (aM) e77 ⟨rfl, rfl⟩)) (q_kV ?_)
      have fx78 : q_Fx S r76 := q_Fx.tr (q_Fx.rf S) (fxX12_callStep e77)
      obtain rfl := Option.some.inj h
      exact q_vret rfl dX12_objectStep_324 hQ
    rcases c75 with c75 | c75
    · exact q_tabIn (M := mX12_objectStep) (pc := 1) (x := x1) 317 (by rw [c75]; decide) (by rw [c75]; decide) (by rw [c75]; rfl) (by decide) dX12_objectStep_1 (K trivial)
    · exact q_tabIn (M := mX12_objectStep) (pc := 1) (x := x1) 317 (by rw [c75]; decide) (by rw [c75]; decide) (by rw [c75]; rfl) (by decide) dX12_objectStep_1 (K trivial)
  rw [if_neg c75] at h
  by_cases c79 : x1 = (41 : Int32)
  · rw [if_pos c79] at h
    refine q_tabIn (M := mX12_objectStep) (pc := 1) (x := x1) 325 (by rw [c79]; decide) (by rw [c79]; decide) (by rw [c79]; rfl) (by decide) dX12_objectStep_1 ?_
    refine q_aload_n 0 rfl rfl dX12_objectStep_325 ?_
    obtain ⟨r80, e81, h⟩ := q_bind h
    refine q_callV (ci := 12) (d := 4) (Mc := mX12_pop) (kc := 0) (nc := 0) [] okX12_pop (q_sh102 w) (by decide) rfl lmX12_586 inX12_pop seX12_pop rfl (Nat.le_of_ble_eq_true rfl) (Nat.le_of_ble_eq_true rfl) (Nat.le_refl _) (Nat.le_refl _) dX12_objectStep_326 (q_L.deep (by decide) (kX12_pop (Q := fun r S' => r = some (.long r80.1) ∧ S' = r80.2) w e81 ⟨rfl, rfl⟩)) (q_kJ ?_)
    have fx82 : q_Fx S r80.2 := q_Fx.tr (q_Fx.rf S) (fxX12_pop e81)
    refine q_lstore [(14, .long r80.1), (0, .ref 102), (1, .int x1), (2, .int x2), (3, .int x3)] (by decide) rfl dX12_objectStep_329 ?_
    refine q_lload 0 rfl dX12_objectStep_331 ?_
    refine q_ldc2 lkX12_553 dX12_objectStep_333 ?_
    refine q_lcmp dX12_objectStep_336 ?_
    refine q_if_ne 349 (by decide) dX12_objectStep_337 (fun c => ?_) (fun c => ?_)
    · rw [if_neg c] at h
      refine q_aload_n 1 rfl rfl dX12_objectStep_349 ?_
      refine q_lload 0 rfl dX12_objectStep_350 ?_
      refine q_iload_n 4 rfl rfl dX12_objectStep_352 ?_
      obtain ⟨r83, e84, h⟩ := q_bind h
      refine q_callV (ci := 12) (d := 4) (Mc := mX12_toss) (kc := 0) (nc := 0) [.long r80.1, .int x3] okX12_toss (q_sh102 (w.fx fx82)) (by decide) rfl lmX12_578 inX12_toss seX12_toss rfl (Nat.le_of_ble_eq_true rfl) (Nat.le_of_ble_eq_true rfl) (Nat.le_refl _) (Nat.le_refl _) dX12_objectStep_353 (q_L.deep (by decide) (kX12_toss (Q := fun r S' => r = none ∧ S' = r83) (w.fx fx82) hq (aM.fx fx82) e84 ⟨rfl, rfl⟩)) (q_kV ?_)
      have fx85 : q_Fx S r83 := q_Fx.tr (fx82) (fxX12_toss e84)
      obtain rfl := Option.some.inj h
      exact q_vret rfl dX12_objectStep_356 hQ
    · rw [if_pos c] at h
      refine q_aload_n 1 rfl rfl dX12_objectStep_340 ?_
      refine q_iconst (v := (0 : Int32)) (by decide) dX12_objectStep_341 ?_
      refine q_iload_n 4 rfl rfl dX12_objectStep_342 ?_
      obtain ⟨r86, e87, h⟩ := q_bind h
      refine q_callV (ci := 12) (d := 4) (Mc := mX12_raise) (kc := 0) (nc := 0) [.int (0 : Int32), .int x3] okX12_raise (q_sh102 (w.fx fx82)) (by decide) rfl lmX12_603 inX12_raise seX12_raise rfl (Nat.le_of_ble_eq_true rfl) (Nat.le_of_ble_eq_true rfl) (Nat.le_refl _) (Nat.le_refl _) dX12_objectStep_343 (q_L.deep (by decide) (kX12_raise (Q := fun r S' => r = none ∧ S' = r86) (w.fx fx82) hq (aM.fx fx82) e87 ⟨rfl, rfl⟩)) (q_kV ?_)
      have fx88 : q_Fx S r86 := q_Fx.tr (fx82) (fxX12_raise e87)
      refine q_goto 356 (by decide) dX12_objectStep_346 ?_
      obtain rfl := Option.some.inj h
      exact q_vret rfl dX12_objectStep_356 hQ
  rw [if_neg c79] at h
  have n109 : ¬ x1 = (30 : Int32) := (fun q => c8 (Or.inl q))
  have n110 : ¬ x1 = (31 : Int32) := (fun q => c8 (Or.inr (q)))
  have n111 : ¬ x1 = (33 : Int32) := (fun q => c28 (Or.inl q))
  have n112 : ¬ x1 = (34 : Int32) := (fun q => c28 (Or.inr (q)))
  have n113 : ¬ x1 = (35 : Int32) := (fun q => c32 (Or.inl q))
  have n114 : ¬ x1 = (36 : Int32) := (fun q => c32 (Or.inr (q)))
  have n115 : ¬ x1 = (37 : Int32) := (fun q => c62 (Or.inl q))
  have n116 : ¬ x1 = (38 : Int32) := (fun q => c62 (Or.inr (q)))
  have n117 : ¬ x1 = (39 : Int32) := (fun q => c75 (Or.inl q))
  have n118 : ¬ x1 = (40 : Int32) := (fun q => c75 (Or.inr (q)))
  refine q_tabOut (M := mX12_objectStep) (pc := 1) (x := x1) 357 (by have := lv_neT (a := 30) n109 (by decide); have := lv_neT (a := 31) n110 (by decide); have := lv_neT (a := 32) c12 (by decide); have := lv_neT (a := 33) n111 (by decide); have := lv_neT (a := 34) n112 (by decide); have := lv_neT (a := 35) n113 (by decide); have := lv_neT (a := 36) n114 (by decide); have := lv_neT (a := 37) n115 (by decide); have := lv_neT (a := 38) n116 (by decide); have := lv_neT (a := 39) n117 (by decide); have := lv_neT (a := 40) n118 (by decide); have := lv_neT (a := 41) c79 (by decide); omega) (by decide) dX12_objectStep_1 ?_
  refine q_iload_n 1 rfl rfl dX12_objectStep_357 ?_
  refine q_bipush (v := (42 : Int32)) (by decide) dX12_objectStep_358 ?_
  obtain ⟨v92, hv, h⟩ := q_bind h
  have fx93 : q_Fx S v92.2 := by
    replace h := hv
    by_cases c : x1 = (42 : Int32)
    · rw [if_pos c] at h
      obtain ⟨r89, e90, h⟩ := q_bind h
      have fx91 : q_Fx S r89.2 := q_Fx.tr (q_Fx.rf S) (fxX12_pop e90)
      obtain rfl := Option.some.inj h
      exact fx91
    · rw [if_neg c] at h
      obtain rfl := Option.some.inj h
      exact q_Fx.rf _
  have K4 : q_L g mX12_objectStep 5 0 0 Q 0 0 371 [(0, .ref 102), (1, .int x1), (3, .int x3)] [.long v92.1] v92.2 := by
    refine q_lstore [(16, .long v92.1), (0, .ref 102), (1, .int x1), (3, .int x3)] (by decide) rfl dX12_objectStep_371 ?_
    refine q_aload_n 1 rfl rfl dX12_objectStep_373 ?_
    refine q_getI (q_sh102 (w.fx fx93)) (by decide) (by decide) rfl lfX12_533 dX12_objectStep_374 ?_
    refine q_iconst (v := (1 : Int32)) (by decide) dX12_objectStep_377 ?_
    refine q_icmp_ne 388 (by decide) dX12_objectStep_378 (fun c => ?_) (fun c => ?_)
    · rw [if_neg c] at h
      refine q_aload_n 1 rfl rfl dX12_objectStep_388 ?_
      refine q_dup rfl dX12_objectStep_389 ?_
      refine q_getI (q_sh102 (w.fx fx93)) (by decide) (by decide) rfl lfX12_533 dX12_objectStep_390 ?_
      refine q_iconst (v := (1 : Int32)) (by decide) dX12_objectStep_393 ?_
      refine q_isub dX12_objectStep_394 ?_
      refine q_putI (q_sh102 (w.fx fx93)) (by decide) (by decide) rfl rfl ⟨rfl, rfl⟩ lfX12_533 dX12_objectStep_395 ?_
      obtain ⟨S94, e95, h⟩ := q_bindS h
      refine q_st e95 ?_
      have fx96 : q_Fx S S94 := e95 ▸ q_Fx.sI (fx93)
      refine q_iload_n 2 rfl rfl dX12_objectStep_398 ?_
      refine q_bipush (v := (42 : Int32)) (by decide) dX12_objectStep_399 ?_
      refine q_icmp_ne 410 (by decide) dX12_objectStep_401 (fun c => ?_) (fun c => ?_)
      · rw [if_neg c] at h
        refine q_aload_n 1 rfl rfl dX12_objectStep_410 ?_
        obtain ⟨r97, e98, h⟩ := q_bind h
        refine q_callV (ci := 12) (d := 4) (Mc := mX12_next) (kc := 0) (nc := 0) [] okX12_next (q_sh102 (w.fx fx96)) (by decide) rfl lmX12_600 inX12_next seX12_next rfl (Nat.le_of_ble_eq_true rfl) (Nat.le_of_ble_eq_true rfl) (Nat.le_refl _) (Nat.le_refl _) dX12_objectStep_411 (q_L.deep (by decide) (kX12_next (Q := fun r S' => r = none ∧ S' = r97) (w.fx fx96) e98 ⟨rfl, rfl⟩)) (q_kV ?_)
        have fx99 : q_Fx S r97 := q_Fx.tr (fx96) (fxX12_next e98)
        obtain rfl := Option.some.inj h
        exact q_vret rfl dX12_objectStep_414 hQ
      · rw [if_pos c] at h
        refine q_aload_n 1 rfl rfl dX12_objectStep_404 ?_
        refine q_lload 0 rfl dX12_objectStep_405 ?_
        obtain ⟨r100, e101, h⟩ := q_bind h
        refine q_callV (ci := 12) (d := 4) (Mc := mX12_push) (kc := 0) (nc := 0) [.long v92.1] okX12_push (q_sh102 (w.fx fx96)) (by decide) rfl lmX12_582 inX12_push seX12_push rfl (Nat.le_of_ble_eq_true rfl) (Nat.le_of_ble_eq_true rfl) (Nat.le_refl _) (Nat.le_refl _) dX12_objectStep_407 (q_L.deep (by decide) (kX12_push (Q := fun r S' => r = none ∧ S' = r100) (w.fx fx96) e101 ⟨rfl, rfl⟩)) (q_kV ?_)
        have fx102 : q_Fx S r100 := q_Fx.tr (fx96) (fxX12_push e101)
        refine q_aload_n 1 rfl rfl dX12_objectStep_410 ?_
        obtain ⟨r103, e104, h⟩ := q_bind h
        refine q_callV (ci := 12) (d := 4) (Mc := mX12_next) (kc := 0) (nc := 0) [] okX12_next (q_sh102 (w.fx fx102)) (by decide) rfl lmX12_600 inX12_next seX12_next rfl (Nat.le_of_ble_eq_true rfl) (Nat.le_of_ble_eq_true rfl) (Nat.le_refl _) (Nat.le_refl _) dX12_objectStep_411 (q_L.deep (by decide) (kX12_next (Q := fun r S' => r = none ∧ S' = r103) (w.fx fx102) e104 ⟨rfl, rfl⟩)) (q_kV ?_)
        have fx105 : q_Fx S r103 := q_Fx.tr (fx102) (fxX12_next e104)
        obtain rfl := Option.some.inj h
        exact q_vret rfl dX12_objectStep_414 hQ
    · rw [if_pos c] at h
      refine q_aload_n 1 rfl rfl dX12_objectStep_381 ?_
      refine q_iconst (v := (0 : Int32)) (by decide) dX12_objectStep_382 ?_
      refine q_iload_n 3 rfl rfl dX12_objectStep_383 ?_
      obtain ⟨r106, e107, h⟩ := q_bind h
      refine q_callV (ci := 12) (d := 4) (Mc := mX12_ended) (kc := 0) (nc := 0) [.int (0 : Int32), .int x3] okX12_ended (q_sh102 (w.fx fx93)) (by decide) rfl lmX12_570 inX12_ended seX12_ended rfl (Nat.le_of_ble_eq_true rfl) (Nat.le_of_ble_eq_true rfl) (Nat.le_refl _) (Nat.le_refl _) dX12_objectStep_384 (q_L.deep (by decide) (kX12_ended (Q := fun r S' => r = none ∧ S' = r106) (w.fx fx93) e107 ⟨rfl, rfl⟩)) (q_kV ?_)
      have fx108 : q_Fx S r106 := q_Fx.tr (fx93) (fxX12_ended e107)
      obtain rfl := Option.some.inj h
      exact q_vret rfl dX12_objectStep_387 hQ
  replace h := hv
  refine q_icmp_ne 370 (by decide) dX12_objectStep_360 (fun c => ?_) (fun c => ?_)
  · rw [if_neg c] at h
    refine q_lconst (v := (0 : Int64)) (by decide) dX12_objectStep_370 ?_
    obtain rfl := Option.some.inj h
    refine q_sub [0, 1, 3] rfl ?_
    exact K4
  · rw [if_pos c] at h
    refine q_aload_n 0 rfl rfl dX12_objectStep_363 ?_
    obtain ⟨r89, e90, h⟩ := q_bind h
    refine q_callV (ci := 12) (d := 4) (Mc := mX12_pop) (kc := 0) (nc := 0) [] okX12_pop (q_sh102 w) (by decide) rfl lmX12_586 inX12_pop seX12_pop rfl (Nat.le_of_ble_eq_true rfl) (Nat.le_of_ble_eq_true rfl) (Nat.le_refl _) (Nat.le_refl _) dX12_objectStep_364 (q_L.deep (by decide) (kX12_pop (Q := fun r S' => r = some (.long r89.1) ∧ S' = r89.2) w e90 ⟨rfl, rfl⟩)) (q_kJ ?_)
    have fx91 : q_Fx S r89.2 := q_Fx.tr (q_Fx.rf S) (fxX12_pop e90)
    refine q_goto 371 (by decide) dX12_objectStep_367 ?_
    obtain rfl := Option.some.inj h
    refine q_sub [0, 1, 3] rfl ?_
    exact K4
