set_option maxRecDepth 20000 in
theorem sX8_take_30 {g : QG} {Q : Option Value → QS → Prop}   {x : Int32 × QS} {z : (QS) ⊕ (Int32 × QS)} (w : q_Wire x.2) (h : tX8_take_30 x = some z) (hQ : (Sum.elim (fun r0 : QS => Q none r0) (fun y : Int32 × QS => q_L g mX8_take 0 0 0 Q 0 0 30 [(0, .ref 2), (1, .ref 1), (3, .int y.1)] [] y.2) z)) : q_L g mX8_take 0 0 0 Q 0 0 30 [(0, .ref 2), (1, .ref 1), (3, .int x.1)] [] x.2 := by
  unfold tX8_take_30 at h
  refine q_iload_n 2 rfl rfl dX8_take_30 ?_
  refine q_aload_n 0 rfl rfl dX8_take_31 ?_
  refine q_getI (q_sh2 w) (by decide) (by decide) rfl lfX8_25 dX8_take_32 ?_
  refine q_icmp_ge 66 (by decide) dX8_take_35 (fun c => ?_) (fun c => ?_)
  · rw [if_pos c] at h
    cases h
    exact q_vret rfl dX8_take_66 hQ
  · rw [if_neg c] at h
    refine q_aload_n 0 rfl rfl dX8_take_38 ?_
    refine q_getR (q_sh2 w) (by decide) (by decide) rfl lfX8_9 dX8_take_39 (r := 3) (q_wr2_0 w) ?_
    refine q_iload_n 2 rfl rfl dX8_take_42 ?_
    refine q_aload_n 1 rfl rfl dX8_take_43 ?_
    refine q_iload_n 2 rfl rfl dX8_take_44 ?_
    refine q_iconst (v := (2 : Int32)) (by decide) dX8_take_45 ?_
    refine q_ishr dX8_take_46 ?_
    obtain ⟨hg1, h⟩ := q_guard h
    refine q_iald (q_sh1 w) (q_inb_in hg1) dX8_take_47 ?_
    refine q_bipush (v := (24 : Int32)) (by decide) dX8_take_48 ?_
    refine q_bipush (v := (8 : Int32)) (by decide) dX8_take_50 ?_
    refine q_iload_n 2 rfl rfl dX8_take_52 ?_
    refine q_iconst (v := (3 : Int32)) (by decide) dX8_take_53 ?_
    refine q_iand dX8_take_54 ?_
    refine q_imul dX8_take_55 ?_
    refine q_isub dX8_take_56 ?_
    refine q_ishr dX8_take_57 ?_
    refine q_i2b dX8_take_58 ?_
    obtain ⟨hg2, h⟩ := q_guard h
    refine q_bast (q_sh3 w) (q_inb_in hg2) dX8_take_59 ?_
    obtain ⟨S3, e4, h⟩ := q_bindS h
    refine q_st e4 ?_
    have fx5 : q_Fx x.2 S3 := e4 ▸ q_Fx.sI (q_Fx.rf x.2)
    refine q_iinc (v := (x.1 + (1 : Int32))) 2 [(3, .int (x.1 + (1 : Int32))), (0, .ref 2), (1, .ref 1)] (by decide) rfl (congrArg (fun t => x.1 + t) (by decide)) rfl dX8_take_60 ?_
    refine q_goto 30 (by decide) dX8_take_63 ?_
    refine q_sub [1, 2, 0] rfl ?_
    cases h
    exact hQ
theorem lX8_take_30 {g : QG} {Q : Option Value → QS → Prop}   {r : QS}  (hQ : Q none r) : ∀ (c : Nat) (x : Int32 × QS), q_Wire x.2 → q_it (tX8_take_30) c x = some r → q_L g mX8_take 0 0 0 Q 0 0 30 [(0, .ref 2), (1, .ref 1), (3, .int x.1)] [] x.2 := by
  intro c
  induction c with
  | zero => intro x w h; cases h
  | succ c ih =>
    intro x w h
    simp only [q_it] at h
    cases hz : tX8_take_30 x with
    | none => rw [hz] at h; cases h
    | some z =>
      rw [hz] at h
      refine sX8_take_30 w hz ?_
      rcases z with z | y
      · cases h; exact hQ
      · have fz := fxtX8_take_30 hz; exact ih y (w.fx fz) h
theorem kX8_take_30 {S : QS} {g : QG} {Q : Option Value → QS → Prop}  {y3 : Int32} {r : QS} (w : q_Wire S) (h : fX8_take_30 S y3 = some r) (hQ : Q none r) : q_L g mX8_take 0 0 0 Q 0 0 30 [(0, .ref 2), (1, .ref 1), (3, .int y3)] [] S := by
  obtain ⟨c, hc⟩ := q_run_it h
  exact lX8_take_30  hQ c (y3, S) w hc
set_option maxRecDepth 20000 in
theorem kX8_take {S : QS} {g : QG} {Q : Option Value → QS → Prop}  {x2 : Int32} {r : QS} (w : q_Wire S) (h : fX8_take S x2 = some r) (hQ : Q none r) : q_M g mX8_take 0 0 0 [.ref 2, .ref 1, .int x2] S Q := by
  unfold fX8_take at h
  show q_L g mX8_take 0 0 0 Q 0 0 0 [(0, .ref 2), (1, .ref 1), (2, .int x2)] [] S
  refine q_aload_n 0 rfl rfl dX8_take_0 ?_
  refine q_iload_n 2 rfl rfl dX8_take_1 ?_
  refine q_if_lt 20 (by decide) dX8_take_2 (fun c => ?_) (fun c => ?_)
  · rw [if_pos c] at h
    refine q_iconst (v := (0 : Int32)) (by decide) dX8_take_20 ?_
    refine q_goto 25 (by decide) dX8_take_21 ?_
    refine q_putI (q_sh2 w) (by decide) (by decide) rfl rfl ⟨rfl, rfl⟩ lfX8_25 dX8_take_25 ?_
    obtain ⟨S6, e7, h⟩ := q_bindS h
    refine q_st e7 ?_
    have fx8 : q_Fx S S6 := e7 ▸ q_Fx.sI (q_Fx.rf S)
    refine q_iconst (v := (0 : Int32)) (by decide) dX8_take_28 ?_
    refine q_istore_n [(3, .int (0 : Int32)), (0, .ref 2), (1, .ref 1), (2, .int x2)] rfl (by decide) rfl dX8_take_29 ?_
    refine q_sub [1, 2, 0] rfl ?_
    exact kX8_take_30 (w.fx fx8) h hQ
  · rw [if_neg c] at h
    refine q_iload_n 2 rfl rfl dX8_take_5 ?_
    refine q_sipush (v := (16000 : Int32)) (by decide) dX8_take_6 ?_
    refine q_icmp_gt 20 (by decide) dX8_take_9 (fun c => ?_) (fun c => ?_)
    · rw [if_pos c] at h
      refine q_iconst (v := (0 : Int32)) (by decide) dX8_take_20 ?_
      refine q_goto 25 (by decide) dX8_take_21 ?_
      refine q_putI (q_sh2 w) (by decide) (by decide) rfl rfl ⟨rfl, rfl⟩ lfX8_25 dX8_take_25 ?_
      obtain ⟨S9, e10, h⟩ := q_bindS h
      refine q_st e10 ?_
      have fx11 : q_Fx S S9 := e10 ▸ q_Fx.sI (q_Fx.rf S)
      refine q_iconst (v := (0 : Int32)) (by decide) dX8_take_28 ?_
      refine q_istore_n [(3, .int (0 : Int32)), (0, .ref 2), (1, .ref 1), (2, .int x2)] rfl (by decide) rfl dX8_take_29 ?_
      refine q_sub [1, 2, 0] rfl ?_
      exact kX8_take_30 (w.fx fx11) h hQ
    · rw [if_neg c] at h
      refine q_iload_n 2 rfl rfl dX8_take_12 ?_
      refine q_iconst (v := (4 : Int32)) (by decide) dX8_take_13 ?_
      refine q_aload_n 1 rfl rfl dX8_take_14 ?_
      refine q_alen (q_sh1 w) (by decide) dX8_take_15 ?_
      refine q_imul dX8_take_16 ?_
      refine q_icmp_le 24 (by decide) dX8_take_17 (fun c => ?_) (fun c => ?_)
      · rw [if_pos c] at h
        refine q_iload_n 2 rfl rfl dX8_take_24 ?_
        refine q_putI (q_sh2 w) (by decide) (by decide) rfl rfl ⟨rfl, rfl⟩ lfX8_25 dX8_take_25 ?_
        obtain ⟨S12, e13, h⟩ := q_bindS h
        refine q_st e13 ?_
        have fx14 : q_Fx S S12 := e13 ▸ q_Fx.sI (q_Fx.rf S)
        refine q_iconst (v := (0 : Int32)) (by decide) dX8_take_28 ?_
        refine q_istore_n [(3, .int (0 : Int32)), (0, .ref 2), (1, .ref 1), (2, .int x2)] rfl (by decide) rfl dX8_take_29 ?_
        refine q_sub [1, 2, 0] rfl ?_
        exact kX8_take_30 (w.fx fx14) h hQ
      · rw [if_neg c] at h
        refine q_iconst (v := (0 : Int32)) (by decide) dX8_take_20 ?_
        refine q_goto 25 (by decide) dX8_take_21 ?_
        refine q_putI (q_sh2 w) (by decide) (by decide) rfl rfl ⟨rfl, rfl⟩ lfX8_25 dX8_take_25 ?_
        obtain ⟨S15, e16, h⟩ := q_bindS h
        refine q_st e16 ?_
        have fx17 : q_Fx S S15 := e16 ▸ q_Fx.sI (q_Fx.rf S)
        refine q_iconst (v := (0 : Int32)) (by decide) dX8_take_28 ?_
        refine q_istore_n [(3, .int (0 : Int32)), (0, .ref 2), (1, .ref 1), (2, .int x2)] rfl (by decide) rfl dX8_take_29 ?_
        refine q_sub [1, 2, 0] rfl ?_
        exact kX8_take_30 (w.fx fx17) h hQ
set_option maxRecDepth 20000 in
theorem kX8_useUp {S : QS} {g : QG} {Q : Option Value → QS → Prop}   {r : QS} (w : q_Wire S) (h : fX8_useUp S = some r) (hQ : Q none r) : q_M g mX8_useUp 0 0 0 [.ref 2] S Q := by
  unfold fX8_useUp at h
  show q_L g mX8_useUp 0 0 0 Q 0 0 0 [(0, .ref 2)] [] S
  refine q_aload_n 0 rfl rfl dX8_useUp_0 ?_
  refine q_iconst (v := (0 : Int32)) (by decide) dX8_useUp_1 ?_
  refine q_putI (q_sh2 w) (by decide) (by decide) rfl rfl ⟨rfl, rfl⟩ lfX8_25 dX8_useUp_2 ?_
  obtain ⟨S1, e2, h⟩ := q_bindS h
  refine q_st e2 ?_
  have fx3 : q_Fx S S1 := e2 ▸ q_Fx.sI (q_Fx.rf S)
  obtain rfl := Option.some.inj h
  exact q_vret rfl dX8_useUp_5 hQ
set_option maxRecDepth 20000 in
theorem usX8_split_55 {S : QS} {g : QG} {Q : Option Value → QS → Prop}  {y1 : Int32} {y2 : Int32} {y3 : Int32} {y4 : Int32} {z : (Bool × QS) ⊕ (Int32 × Int32 × Int32 × QS)} (w : q_Wire S) (h : uX8_split_55 S y1 y2 y3 y4 = some z) (hQ : (Sum.elim (fun r0 : Bool × QS => Q (some (.int (q_b r0.1))) r0.2) (fun y : Int32 × Int32 × Int32 × QS => q_L g mX8_split 0 0 0 Q 0 0 11 [(0, .ref 2), (1, .int y.1), (2, .int y.2.1), (3, .int y.2.2.1)] [] y.2.2.2) z)) : q_L g mX8_split 0 0 0 Q 0 0 55 [(0, .ref 2), (1, .int y1), (2, .int y2), (3, .int y3), (4, .int y4)] [] S := by
  unfold uX8_split_55 at h
  refine q_iload 4 rfl dX8_split_55 ?_
  refine q_bipush (v := (127 : Int32)) (by decide) dX8_split_57 ?_
  refine q_icmp_ne 64 (by decide) dX8_split_59 (fun c => ?_) (fun c => ?_)
  · rw [if_neg c] at h
    refine q_iload 4 rfl dX8_split_64 ?_
    refine q_bipush (v := (59 : Int32)) (by decide) dX8_split_66 ?_
    obtain ⟨v1, hv, h⟩ := q_bind h
    have K1 : q_L g mX8_split 0 0 0 Q 0 0 87 [(0, .ref 2), (2, .int y2), (3, .int y3), (4, .int y4)] [.int (q_b v1)] S := by
      refine q_istore_n [(1, .int (q_b v1)), (0, .ref 2), (2, .int y2), (3, .int y3), (4, .int y4)] rfl (by decide) rfl dX8_split_87 ?_
      refine q_iload_n 0 rfl rfl dX8_split_88 ?_
      obtain ⟨v2, hv, h⟩ := q_bind h
      have K2 : q_L g mX8_split 0 0 0 Q 0 0 104 [(0, .ref 2), (1, .int (q_b v1)), (2, .int y2), (3, .int y3), (4, .int y4)] [.int (q_b v2)] S := by
        refine q_istore [(5, .int (q_b v2)), (0, .ref 2), (1, .int (q_b v1)), (2, .int y2), (3, .int y3), (4, .int y4)] (by decide) rfl dX8_split_104 ?_
        refine q_iload 5 rfl dX8_split_106 ?_
        refine q_bipush (v := (40 : Int32)) (by decide) dX8_split_108 ?_
        obtain ⟨v3, hv, h⟩ := q_bind h
        have K3 : q_L g mX8_split 0 0 0 Q 0 0 146 [(0, .ref 2), (1, .int (q_b v1)), (2, .int y2), (3, .int y3), (5, .int (q_b v2))] [.int (q_b v3)] S := by
          refine q_istore [(6, .int (q_b v3)), (0, .ref 2), (1, .int (q_b v1)), (2, .int y2), (3, .int y3), (5, .int (q_b v2))] (by decide) rfl dX8_split_146 ?_
          refine q_iload 5 rfl dX8_split_148 ?_
          obtain ⟨v18, hv, h⟩ := q_bind h
          have fx19 : q_Fx S v18 := by
            replace h := hv
            by_cases c : v2 = true
            · rw [if_pos c] at h
              obtain rfl := Option.some.inj h
              exact q_Fx.rf _
            · rw [if_neg c] at h
              by_cases c : v3 = true
              · rw [if_pos c] at h
                obtain ⟨hg4, h⟩ := q_guard h
                obtain ⟨S5, e6, h⟩ := q_bindS h
                have fx7 : q_Fx S S5 := e6 ▸ q_Fx.sI (q_Fx.rf S)
                obtain ⟨S8, e9, h⟩ := q_bindS h
                have fx10 : q_Fx S S8 := e9 ▸ q_Fx.sI (fx7)
                obtain rfl := Option.some.inj h
                exact fx10
              · rw [if_neg c] at h
                by_cases c : y2 = 0
                · rw [if_pos c] at h
                  obtain ⟨hg11, h⟩ := q_guard h
                  obtain ⟨S12, e13, h⟩ := q_bindS h
                  have fx14 : q_Fx S S12 := e13 ▸ q_Fx.sI (q_Fx.rf S)
                  obtain ⟨S15, e16, h⟩ := q_bindS h
                  have fx17 : q_Fx S S15 := e16 ▸ q_Fx.sI (fx14)
                  obtain rfl := Option.some.inj h
                  exact fx17
                · rw [if_neg c] at h
                  obtain rfl := Option.some.inj h
                  exact q_Fx.rf _
          have K4 : q_L g mX8_split 0 0 0 Q 0 0 182 [(0, .ref 2), (1, .int (q_b v1)), (3, .int y3), (5, .int (q_b v2)), (6, .int (q_b v3))] [] v18 := by
            refine q_iload 3 rfl dX8_split_182 ?_
            obtain ⟨v24, hv, h⟩ := q_bind h
            have fx25 : q_Fx S v24 := by
              replace h := hv
              by_cases c : v2 = true
              · rw [if_pos c] at h
                obtain rfl := Option.some.inj h
                exact fx19
              · rw [if_neg c] at h
                obtain ⟨hg20, h⟩ := q_guard h
                obtain ⟨S21, e22, h⟩ := q_bindS h
                have fx23 : q_Fx S S21 := e22 ▸ q_Fx.sI (fx19)
                obtain rfl := Option.some.inj h
                exact fx23
            have K5 : q_L g mX8_split 0 0 0 Q 0 0 201 [(0, .ref 2), (1, .int (q_b v1)), (3, .int y3), (5, .int (q_b v2)), (6, .int (q_b v3))] [] v24 := by
              refine q_iload 3 rfl dX8_split_201 ?_
              refine q_if_ne 215 (by decide) dX8_split_203 (fun c => ?_) (fun c => ?_)
              · have c := q_b_n.mp c; rw [q_if1 c] at h
                refine q_iconst (v := (0 : Int32)) (by decide) dX8_split_215 ?_
                refine q_istore_n [(2, .int (0 : Int32)), (0, .ref 2), (1, .int (q_b v1)), (3, .int y3), (5, .int (q_b v2)), (6, .int (q_b v3))] rfl (by decide) rfl dX8_split_216 ?_
                refine q_iinc (v := (y3 + (1 : Int32))) 3 [(3, .int (y3 + (1 : Int32))), (2, .int (0 : Int32)), (0, .ref 2), (1, .int (q_b v1)), (5, .int (q_b v2)), (6, .int (q_b v3))] (by decide) rfl (congrArg (fun t => y3 + t) (by decide)) rfl dX8_split_217 ?_
                refine q_goto 11 (by decide) dX8_split_220 ?_
                refine q_sub [2, 3, 1, 0] rfl ?_
                cases h
                exact hQ
              · have c := q_b_0.mp c; rw [q_if0 c] at h
                refine q_iload 4 rfl dX8_split_206 ?_
                refine q_if_ne 215 (by decide) dX8_split_208 (fun c => ?_) (fun c => ?_)
                · have c := q_b_n.mp c; rw [q_if1 c] at h
                  refine q_iconst (v := (0 : Int32)) (by decide) dX8_split_215 ?_
                  refine q_istore_n [(2, .int (0 : Int32)), (0, .ref 2), (1, .int (q_b v1)), (3, .int y3), (5, .int (q_b v2)), (6, .int (q_b v3))] rfl (by decide) rfl dX8_split_216 ?_
                  refine q_iinc (v := (y3 + (1 : Int32))) 3 [(3, .int (y3 + (1 : Int32))), (2, .int (0 : Int32)), (0, .ref 2), (1, .int (q_b v1)), (5, .int (q_b v2)), (6, .int (q_b v3))] (by decide) rfl (congrArg (fun t => y3 + t) (by decide)) rfl dX8_split_217 ?_
                  refine q_goto 11 (by decide) dX8_split_220 ?_
                  refine q_sub [2, 3, 1, 0] rfl ?_
                  cases h
                  exact hQ
                · have c := q_b_0.mp c; rw [q_if0 c] at h
                  refine q_iconst (v := (1 : Int32)) (by decide) dX8_split_211 ?_
                  refine q_goto 216 (by decide) dX8_split_212 ?_
                  refine q_istore_n [(2, .int (1 : Int32)), (0, .ref 2), (1, .int (q_b v1)), (3, .int y3), (5, .int (q_b v2)), (6, .int (q_b v3))] rfl (by decide) rfl dX8_split_216 ?_
                  refine q_iinc (v := (y3 + (1 : Int32))) 3 [(3, .int (y3 + (1 : Int32))), (2, .int (1 : Int32)), (0, .ref 2), (1, .int (q_b v1)), (5, .int (q_b v2)), (6, .int (q_b v3))] (by decide) rfl (congrArg (fun t => y3 + t) (by decide)) rfl dX8_split_217 ?_
                  refine q_goto 11 (by decide) dX8_split_220 ?_
                  refine q_sub [2, 3, 1, 0] rfl ?_
                  cases h
                  exact hQ
            replace h := hv
            refine q_if_ne 201 (by decide) dX8_split_184 (fun c => ?_) (fun c => ?_)
            · have c := q_b_n.mp c; rw [q_if1 c] at h
              obtain rfl := Option.some.inj h
              refine q_sub [0, 1, 2, 3, 4] rfl ?_
              exact K5
            · have c := q_b_0.mp c; rw [q_if0 c] at h
              refine q_aload_n 0 rfl rfl dX8_split_187 ?_
              refine q_getR (q_sh2 (w.fx fx19)) (by decide) (by decide) rfl lfX8_19 dX8_split_188 (r := 5) (q_wr2_3 (w.fx fx19)) ?_
              refine q_aload_n 0 rfl rfl dX8_split_191 ?_
              refine q_getI (q_sh2 (w.fx fx19)) (by decide) (by decide) rfl lfX8_29 dX8_split_192 ?_
              refine q_iconst (v := (1 : Int32)) (by decide) dX8_split_195 ?_
              refine q_isub dX8_split_196 ?_
              refine q_iload_n 2 rfl rfl dX8_split_197 ?_
              refine q_iconst (v := (1 : Int32)) (by decide) dX8_split_198 ?_
              refine q_iadd dX8_split_199 ?_
              obtain ⟨hg20, h⟩ := q_guard h
              refine q_iast (q_sh5 (w.fx fx19)) (q_inb_in hg20) dX8_split_200 ?_
              obtain ⟨S21, e22, h⟩ := q_bindS h
              refine q_st e22 ?_
              have fx23 : q_Fx S S21 := e22 ▸ q_Fx.sI (fx19)
              obtain rfl := Option.some.inj h
              refine q_sub [0, 1, 2, 3, 4] rfl ?_
              exact K5
          replace h := hv
          refine q_if_ne 182 (by decide) dX8_split_150 (fun c => ?_) (fun c => ?_)
          · have c := q_b_n.mp c; rw [q_if1 c] at h
            obtain rfl := Option.some.inj h
            refine q_sub [1, 2, 4, 5, 0] rfl ?_
            exact K4
          · have c := q_b_0.mp c; rw [q_if0 c] at h
            refine q_iload 0 rfl dX8_split_153 ?_
            refine q_if_ne 162 (by decide) dX8_split_155 (fun c => ?_) (fun c => ?_)
            · have c := q_b_n.mp c; rw [q_if1 c] at h
              refine q_aload_n 1 rfl rfl dX8_split_162 ?_
              refine q_getR (q_sh2 w) (by decide) (by decide) rfl lfX8_15 dX8_split_163 (r := 4) (q_wr2_2 w) ?_
              refine q_aload_n 1 rfl rfl dX8_split_166 ?_
              refine q_getI (q_sh2 w) (by decide) (by decide) rfl lfX8_29 dX8_split_167 ?_
              refine q_iload_n 4 rfl rfl dX8_split_170 ?_
              obtain ⟨hg4, h⟩ := q_guard h
              refine q_iast (q_sh4 w) (q_inb_in hg4) dX8_split_171 ?_
              obtain ⟨S5, e6, h⟩ := q_bindS h
              refine q_st e6 ?_
              have fx7 : q_Fx S S5 := e6 ▸ q_Fx.sI (q_Fx.rf S)
              refine q_aload_n 1 rfl rfl dX8_split_172 ?_
              refine q_dup rfl dX8_split_173 ?_
              refine q_getI (q_sh2 (w.fx fx7)) (by decide) (by decide) rfl lfX8_29 dX8_split_174 ?_
              refine q_iconst (v := (1 : Int32)) (by decide) dX8_split_177 ?_
              refine q_iadd dX8_split_178 ?_
              refine q_putI (q_sh2 (w.fx fx7)) (by decide) (by decide) rfl rfl ⟨rfl, rfl⟩ lfX8_29 dX8_split_179 ?_
              obtain ⟨S8, e9, h⟩ := q_bindS h
              refine q_st e9 ?_
              have fx10 : q_Fx S S8 := e9 ▸ q_Fx.sI (fx7)
              obtain rfl := Option.some.inj h
              refine q_sub [1, 2, 4, 5, 0] rfl ?_
              exact K4
            · have c := q_b_0.mp c; rw [q_if0 c] at h
              refine q_iload_n 3 rfl rfl dX8_split_158 ?_
              refine q_if_ne 182 (by decide) dX8_split_159 (fun c => ?_) (fun c => ?_)
              · rw [if_neg c] at h
                obtain rfl := Option.some.inj h
                refine q_sub [1, 2, 4, 5, 0] rfl ?_
                exact K4
              · rw [if_pos c] at h
                refine q_aload_n 1 rfl rfl dX8_split_162 ?_
                refine q_getR (q_sh2 w) (by decide) (by decide) rfl lfX8_15 dX8_split_163 (r := 4) (q_wr2_2 w) ?_
                refine q_aload_n 1 rfl rfl dX8_split_166 ?_
                refine q_getI (q_sh2 w) (by decide) (by decide) rfl lfX8_29 dX8_split_167 ?_
                refine q_iload_n 4 rfl rfl dX8_split_170 ?_
                obtain ⟨hg11, h⟩ := q_guard h
                refine q_iast (q_sh4 w) (q_inb_in hg11) dX8_split_171 ?_
                obtain ⟨S12, e13, h⟩ := q_bindS h
                refine q_st e13 ?_
                have fx14 : q_Fx S S12 := e13 ▸ q_Fx.sI (q_Fx.rf S)
                refine q_aload_n 1 rfl rfl dX8_split_172 ?_
                refine q_dup rfl dX8_split_173 ?_
                refine q_getI (q_sh2 (w.fx fx14)) (by decide) (by decide) rfl lfX8_29 dX8_split_174 ?_
                refine q_iconst (v := (1 : Int32)) (by decide) dX8_split_177 ?_
                refine q_iadd dX8_split_178 ?_
                refine q_putI (q_sh2 (w.fx fx14)) (by decide) (by decide) rfl rfl ⟨rfl, rfl⟩ lfX8_29 dX8_split_179 ?_
                obtain ⟨S15, e16, h⟩ := q_bindS h
                refine q_st e16 ?_
                have fx17 : q_Fx S S15 := e16 ▸ q_Fx.sI (fx14)
                obtain rfl := Option.some.inj h
                refine q_sub [1, 2, 4, 5, 0] rfl ?_
                exact K4
        replace h := hv
        refine q_icmp_eq 141 (by decide) dX8_split_110 (fun c => ?_) (fun c => ?_)
        · rw [if_pos c] at h
          refine q_iconst (v := (1 : Int32)) (by decide) dX8_split_141 ?_
          refine q_goto 146 (by decide) dX8_split_142 ?_
          obtain rfl := Option.some.inj h
          refine q_sub [1, 2, 3, 4, 0] rfl ?_
          exact K3
        · rw [if_neg c] at h
          refine q_iload 5 rfl dX8_split_113 ?_
          refine q_bipush (v := (41 : Int32)) (by decide) dX8_split_115 ?_
          refine q_icmp_eq 141 (by decide) dX8_split_117 (fun c => ?_) (fun c => ?_)
          · rw [if_pos c] at h
            refine q_iconst (v := (1 : Int32)) (by decide) dX8_split_141 ?_
            refine q_goto 146 (by decide) dX8_split_142 ?_
            obtain rfl := Option.some.inj h
            refine q_sub [1, 2, 3, 4, 0] rfl ?_
            exact K3
          · rw [if_neg c] at h
            refine q_iload 5 rfl dX8_split_120 ?_
            refine q_bipush (v := (123 : Int32)) (by decide) dX8_split_122 ?_
            refine q_icmp_eq 141 (by decide) dX8_split_124 (fun c => ?_) (fun c => ?_)
            · rw [if_pos c] at h
              refine q_iconst (v := (1 : Int32)) (by decide) dX8_split_141 ?_
              refine q_goto 146 (by decide) dX8_split_142 ?_
              obtain rfl := Option.some.inj h
              refine q_sub [1, 2, 3, 4, 0] rfl ?_
              exact K3
            · rw [if_neg c] at h
              refine q_iload 5 rfl dX8_split_127 ?_
              refine q_bipush (v := (125 : Int32)) (by decide) dX8_split_129 ?_
              refine q_icmp_eq 141 (by decide) dX8_split_131 (fun c => ?_) (fun c => ?_)
              · rw [if_pos c] at h
                refine q_iconst (v := (1 : Int32)) (by decide) dX8_split_141 ?_
                refine q_goto 146 (by decide) dX8_split_142 ?_
                obtain rfl := Option.some.inj h
                refine q_sub [1, 2, 3, 4, 0] rfl ?_
                exact K3
              · rw [if_neg c] at h
                refine q_iload 5 rfl dX8_split_134 ?_
                refine q_bipush (v := (58 : Int32)) (by decide) dX8_split_136 ?_
                refine q_icmp_ne 145 (by decide) dX8_split_138 (fun c => ?_) (fun c => ?_)
                · rw [if_neg c] at h
                  refine q_iconst (v := (0 : Int32)) (by decide) dX8_split_145 ?_
                  obtain rfl := Option.some.inj h
                  refine q_sub [1, 2, 3, 4, 0] rfl ?_
                  exact K3
                · rw [if_pos c] at h
                  refine q_iconst (v := (1 : Int32)) (by decide) dX8_split_141 ?_
                  refine q_goto 146 (by decide) dX8_split_142 ?_
                  obtain rfl := Option.some.inj h
                  refine q_sub [1, 2, 3, 4, 0] rfl ?_
                  exact K3
      replace h := hv
      refine q_if_ne 99 (by decide) dX8_split_89 (fun c => ?_) (fun c => ?_)
      · have c := q_b_n.mp c; rw [q_if1 c] at h
        refine q_iconst (v := (1 : Int32)) (by decide) dX8_split_99 ?_
        refine q_goto 104 (by decide) dX8_split_100 ?_
        obtain rfl := Option.some.inj h
        refine q_sub [1, 0, 2, 3, 4] rfl ?_
        exact K2
      · have c := q_b_0.mp c; rw [q_if0 c] at h
        refine q_iload 4 rfl dX8_split_92 ?_
        refine q_bipush (v := (32 : Int32)) (by decide) dX8_split_94 ?_
        refine q_icmp_gt 103 (by decide) dX8_split_96 (fun c => ?_) (fun c => ?_)
        · rw [if_pos c] at h
          refine q_iconst (v := (0 : Int32)) (by decide) dX8_split_103 ?_
          obtain rfl := Option.some.inj h
          refine q_sub [1, 0, 2, 3, 4] rfl ?_
          exact K2
        · rw [if_neg c] at h
          refine q_iconst (v := (1 : Int32)) (by decide) dX8_split_99 ?_
          refine q_goto 104 (by decide) dX8_split_100 ?_
          obtain rfl := Option.some.inj h
          refine q_sub [1, 0, 2, 3, 4] rfl ?_
          exact K2
    replace h := hv
    refine q_icmp_eq 82 (by decide) dX8_split_68 (fun c => ?_) (fun c => ?_)
    · rw [if_pos c] at h
      refine q_iconst (v := (1 : Int32)) (by decide) dX8_split_82 ?_
      refine q_goto 87 (by decide) dX8_split_83 ?_
      obtain rfl := Option.some.inj h
      refine q_sub [0, 2, 3, 4] rfl ?_
      exact K1
    · rw [if_neg c] at h
      refine q_iload_n 1 rfl rfl dX8_split_71 ?_
      refine q_if_eq 86 (by decide) dX8_split_72 (fun c => ?_) (fun c => ?_)
      · rw [if_pos c] at h
        refine q_iconst (v := (0 : Int32)) (by decide) dX8_split_86 ?_
        obtain rfl := Option.some.inj h
        refine q_sub [0, 2, 3, 4] rfl ?_
        exact K1
      · rw [if_neg c] at h
        refine q_iload 4 rfl dX8_split_75 ?_
        refine q_bipush (v := (10 : Int32)) (by decide) dX8_split_77 ?_
        refine q_icmp_eq 86 (by decide) dX8_split_79 (fun c => ?_) (fun c => ?_)
        · rw [if_pos c] at h
          refine q_iconst (v := (0 : Int32)) (by decide) dX8_split_86 ?_
          obtain rfl := Option.some.inj h
          refine q_sub [0, 2, 3, 4] rfl ?_
          exact K1
        · rw [if_neg c] at h
          refine q_iconst (v := (1 : Int32)) (by decide) dX8_split_82 ?_
          refine q_goto 87 (by decide) dX8_split_83 ?_
          obtain rfl := Option.some.inj h
          refine q_sub [0, 2, 3, 4] rfl ?_
          exact K1
  · rw [if_pos c] at h
    refine q_iconst (v := (0 : Int32)) (by decide) dX8_split_62 ?_
    cases h
    exact q_iret rfl (by decide) dX8_split_63 hQ
set_option maxRecDepth 20000 in
theorem sX8_split_11 {g : QG} {Q : Option Value → QS → Prop}   {x : Int32 × Int32 × Int32 × QS} {z : (Bool × QS) ⊕ (Int32 × Int32 × Int32 × QS)} (w : q_Wire x.2.2.2) (h : tX8_split_11 x = some z) (hQ : (Sum.elim (fun r0 : Bool × QS => Q (some (.int (q_b r0.1))) r0.2) (fun y : Int32 × Int32 × Int32 × QS => q_L g mX8_split 0 0 0 Q 0 0 11 [(0, .ref 2), (1, .int y.1), (2, .int y.2.1), (3, .int y.2.2.1)] [] y.2.2.2) z)) : q_L g mX8_split 0 0 0 Q 0 0 11 [(0, .ref 2), (1, .int x.1), (2, .int x.2.1), (3, .int x.2.2.1)] [] x.2.2.2 := by
  unfold tX8_split_11 at h
  refine q_iload_n 3 rfl rfl dX8_split_11 ?_
  refine q_aload_n 0 rfl rfl dX8_split_12 ?_
  refine q_getI (q_sh2 w) (by decide) (by decide) rfl lfX8_25 dX8_split_13 ?_
  refine q_icmp_ge 223 (by decide) dX8_split_16 (fun c => ?_) (fun c => ?_)
  · rw [if_pos c] at h
    refine q_iconst (v := (1 : Int32)) (by decide) dX8_split_223 ?_
    cases h
    exact q_iret rfl (by decide) dX8_split_224 hQ
  · rw [if_neg c] at h
    refine q_aload_n 0 rfl rfl dX8_split_19 ?_
    refine q_getR (q_sh2 w) (by decide) (by decide) rfl lfX8_9 dX8_split_20 (r := 3) (q_wr2_0 w) ?_
    refine q_iload_n 3 rfl rfl dX8_split_23 ?_
    obtain ⟨hg26, h⟩ := q_guard h
    refine q_bald (q_sh3 w) (q_inb_in hg26) dX8_split_24 ?_
    refine q_istore [(4, .int (x.2.2.2.2.1 3 x.2.2.1.toNatClampNeg)), (0, .ref 2), (1, .int x.1), (2, .int x.2.1), (3, .int x.2.2.1)] (by decide) rfl dX8_split_25 ?_
    refine q_iload 0 rfl dX8_split_27 ?_
    refine q_bipush (v := (32 : Int32)) (by decide) dX8_split_29 ?_
    refine q_icmp_ge 55 (by decide) dX8_split_31 (fun c => ?_) (fun c => ?_)
    · rw [if_pos c] at h
      refine q_sub [1, 2, 3, 4, 0] rfl ?_
      exact usX8_split_55 w h hQ
    · rw [if_neg c] at h
      refine q_iload 0 rfl dX8_split_34 ?_
      refine q_bipush (v := (9 : Int32)) (by decide) dX8_split_36 ?_
      refine q_icmp_eq 55 (by decide) dX8_split_38 (fun c => ?_) (fun c => ?_)
      · rw [if_pos c] at h
        refine q_sub [1, 2, 3, 4, 0] rfl ?_
        exact usX8_split_55 w h hQ
      · rw [if_neg c] at h
        refine q_iload 0 rfl dX8_split_41 ?_
        refine q_bipush (v := (10 : Int32)) (by decide) dX8_split_43 ?_
        refine q_icmp_eq 55 (by decide) dX8_split_45 (fun c => ?_) (fun c => ?_)
        · rw [if_pos c] at h
          refine q_sub [1, 2, 3, 4, 0] rfl ?_
          exact usX8_split_55 w h hQ
        · rw [if_neg c] at h
          refine q_iload 0 rfl dX8_split_48 ?_
          refine q_bipush (v := (13 : Int32)) (by decide) dX8_split_50 ?_
          refine q_icmp_ne 62 (by decide) dX8_split_52 (fun c => ?_) (fun c => ?_)
          · rw [if_neg c] at h
            refine q_iconst (v := (0 : Int32)) (by decide) dX8_split_62 ?_
            cases h
            exact q_iret rfl (by decide) dX8_split_63 hQ
          · rw [if_pos c] at h
            refine q_sub [1, 2, 3, 4, 0] rfl ?_
            exact usX8_split_55 w h hQ
theorem lX8_split_11 {g : QG} {Q : Option Value → QS → Prop}   {r : Bool × QS}  (hQ : Q (some (.int (q_b r.1))) r.2) : ∀ (c : Nat) (x : Int32 × Int32 × Int32 × QS), q_Wire x.2.2.2 → q_it (tX8_split_11) c x = some r → q_L g mX8_split 0 0 0 Q 0 0 11 [(0, .ref 2), (1, .int x.1), (2, .int x.2.1), (3, .int x.2.2.1)] [] x.2.2.2 := by
  intro c
  induction c with
  | zero => intro x w h; cases h
  | succ c ih =>
    intro x w h
    simp only [q_it] at h
    cases hz : tX8_split_11 x with
    | none => rw [hz] at h; cases h
    | some z =>
      rw [hz] at h
      refine sX8_split_11 w hz ?_
      rcases z with z | y
      · cases h; exact hQ
      · have fz := fxtX8_split_11 hz; exact ih y (w.fx fz) h
theorem kX8_split_11 {S : QS} {g : QG} {Q : Option Value → QS → Prop}  {y1 : Int32} {y2 : Int32} {y3 : Int32} {r : Bool × QS} (w : q_Wire S) (h : fX8_split_11 S y1 y2 y3 = some r) (hQ : Q (some (.int (q_b r.1))) r.2) : q_L g mX8_split 0 0 0 Q 0 0 11 [(0, .ref 2), (1, .int y1), (2, .int y2), (3, .int y3)] [] S := by
  obtain ⟨c, hc⟩ := q_run_it h
  exact lX8_split_11  hQ c (y1, y2, y3, S) w hc
set_option maxRecDepth 20000 in
theorem kX8_split {S : QS} {g : QG} {Q : Option Value → QS → Prop}   {r : Bool × QS} (w : q_Wire S) (h : fX8_split S = some r) (hQ : Q (some (.int (q_b r.1))) r.2) : q_M g mX8_split 0 0 0 [.ref 2] S Q := by
  unfold fX8_split at h
  show q_L g mX8_split 0 0 0 Q 0 0 0 [(0, .ref 2)] [] S
  refine q_aload_n 0 rfl rfl dX8_split_0 ?_
  refine q_iconst (v := (0 : Int32)) (by decide) dX8_split_1 ?_
  refine q_putI (q_sh2 w) (by decide) (by decide) rfl rfl ⟨rfl, rfl⟩ lfX8_29 dX8_split_2 ?_
  obtain ⟨S27, e28, h⟩ := q_bindS h
  refine q_st e28 ?_
  have fx29 : q_Fx S S27 := e28 ▸ q_Fx.sI (q_Fx.rf S)
  refine q_iconst (v := (0 : Int32)) (by decide) dX8_split_5 ?_
  refine q_istore_n [(1, .int (0 : Int32)), (0, .ref 2)] rfl (by decide) rfl dX8_split_6 ?_
  refine q_iconst (v := (0 : Int32)) (by decide) dX8_split_7 ?_
  refine q_istore_n [(2, .int (0 : Int32)), (1, .int (0 : Int32)), (0, .ref 2)] rfl (by decide) rfl dX8_split_8 ?_
  refine q_iconst (v := (0 : Int32)) (by decide) dX8_split_9 ?_
  refine q_istore_n [(3, .int (0 : Int32)), (2, .int (0 : Int32)), (1, .int (0 : Int32)), (0, .ref 2)] rfl (by decide) rfl dX8_split_10 ?_
  refine q_sub [3, 2, 1, 0] rfl ?_
  exact kX8_split_11 (w.fx fx29) h hQ
set_option maxRecDepth 20000 in
theorem kX8_start {S : QS} {g : QG} {Q : Option Value → QS → Prop}  {x1 : Int32} {r : Int32} (w : q_Wire S) (h : fX8_start S x1 = some r) (hQ : Q (some (.int r)) S) : q_M g mX8_start 0 0 0 [.ref 2, .int x1] S Q := by
  unfold fX8_start at h
  show q_L g mX8_start 0 0 0 Q 0 0 0 [(0, .ref 2), (1, .int x1)] [] S
  refine q_iload_n 1 rfl rfl dX8_start_0 ?_
  refine q_if_lt 21 (by decide) dX8_start_1 (fun c => ?_) (fun c => ?_)
  · rw [if_pos c] at h
    refine q_iconst (v := (0 : Int32)) (by decide) dX8_start_21 ?_
    obtain rfl := Option.some.inj h
    exact q_iret rfl rfl dX8_start_22 hQ
  · rw [if_neg c] at h
    refine q_iload_n 1 rfl rfl dX8_start_4 ?_
    refine q_aload_n 0 rfl rfl dX8_start_5 ?_
    refine q_getI (q_sh2 w) (by decide) (by decide) rfl lfX8_29 dX8_start_6 ?_
    refine q_icmp_ge 21 (by decide) dX8_start_9 (fun c => ?_) (fun c => ?_)
    · rw [if_pos c] at h
      refine q_iconst (v := (0 : Int32)) (by decide) dX8_start_21 ?_
      obtain rfl := Option.some.inj h
      exact q_iret rfl rfl dX8_start_22 hQ
    · rw [if_neg c] at h
      refine q_aload_n 0 rfl rfl dX8_start_12 ?_
      refine q_getR (q_sh2 w) (by decide) (by decide) rfl lfX8_15 dX8_start_13 (r := 4) (q_wr2_2 w) ?_
      refine q_iload_n 1 rfl rfl dX8_start_16 ?_
      obtain ⟨hg1, h⟩ := q_guard h
      refine q_iald (q_sh4 w) (q_inb_in hg1) dX8_start_17 ?_
      refine q_goto 22 (by decide) dX8_start_18 ?_
      obtain rfl := Option.some.inj h
      exact q_iret rfl rfl dX8_start_22 hQ
set_option maxRecDepth 20000 in
theorem kX8_stop {S : QS} {g : QG} {Q : Option Value → QS → Prop}  {x1 : Int32} {r : Int32} (w : q_Wire S) (h : fX8_stop S x1 = some r) (hQ : Q (some (.int r)) S) : q_M g mX8_stop 0 0 0 [.ref 2, .int x1] S Q := by
  unfold fX8_stop at h
  show q_L g mX8_stop 0 0 0 Q 0 0 0 [(0, .ref 2), (1, .int x1)] [] S
  refine q_iload_n 1 rfl rfl dX8_stop_0 ?_
  refine q_if_lt 21 (by decide) dX8_stop_1 (fun c => ?_) (fun c => ?_)
  · rw [if_pos c] at h
    refine q_iconst (v := (0 : Int32)) (by decide) dX8_stop_21 ?_
    obtain rfl := Option.some.inj h
    exact q_iret rfl rfl dX8_stop_22 hQ
  · rw [if_neg c] at h
    refine q_iload_n 1 rfl rfl dX8_stop_4 ?_
    refine q_aload_n 0 rfl rfl dX8_stop_5 ?_
    refine q_getI (q_sh2 w) (by decide) (by decide) rfl lfX8_29 dX8_stop_6 ?_
    refine q_icmp_ge 21 (by decide) dX8_stop_9 (fun c => ?_) (fun c => ?_)
    · rw [if_pos c] at h
      refine q_iconst (v := (0 : Int32)) (by decide) dX8_stop_21 ?_
      obtain rfl := Option.some.inj h
      exact q_iret rfl rfl dX8_stop_22 hQ
    · rw [if_neg c] at h
      refine q_aload_n 0 rfl rfl dX8_stop_12 ?_
      refine q_getR (q_sh2 w) (by decide) (by decide) rfl lfX8_19 dX8_stop_13 (r := 5) (q_wr2_3 w) ?_
      refine q_iload_n 1 rfl rfl dX8_stop_16 ?_
      obtain ⟨hg1, h⟩ := q_guard h
      refine q_iald (q_sh5 w) (q_inb_in hg1) dX8_stop_17 ?_
      refine q_goto 22 (by decide) dX8_stop_18 ?_
      obtain rfl := Option.some.inj h
      exact q_iret rfl rfl dX8_stop_22 hQ
set_option maxRecDepth 20000 in
theorem kX8_isMark {S : QS} {g : QG} {Q : Option Value → QS → Prop}  {x1 : Int32} {x2 : Int32} {r : Bool} (w : q_Wire S) (h : fX8_isMark S x1 x2 = some r) (hQ : Q (some (.int (q_b r))) S) : q_M g mX8_isMark 0 0 0 [.ref 2, .int x1, .int x2] S Q := by
  unfold fX8_isMark at h
  show q_L g mX8_isMark 0 0 0 Q 0 0 0 [(0, .ref 2), (1, .int x1), (2, .int x2)] [] S
  refine q_iload_n 1 rfl rfl dX8_isMark_0 ?_
  refine q_if_lt 31 (by decide) dX8_isMark_1 (fun c => ?_) (fun c => ?_)
  · rw [if_pos c] at h
    refine q_iconst (v := (0 : Int32)) (by decide) dX8_isMark_31 ?_
    obtain rfl := Option.some.inj h
    exact q_iret rfl (by decide) dX8_isMark_32 hQ
  · rw [if_neg c] at h
    refine q_iload_n 1 rfl rfl dX8_isMark_4 ?_
    refine q_aload_n 0 rfl rfl dX8_isMark_5 ?_
    refine q_getI (q_sh2 w) (by decide) (by decide) rfl lfX8_29 dX8_isMark_6 ?_
    refine q_icmp_ge 31 (by decide) dX8_isMark_9 (fun c => ?_) (fun c => ?_)
    · rw [if_pos c] at h
      refine q_iconst (v := (0 : Int32)) (by decide) dX8_isMark_31 ?_
      obtain rfl := Option.some.inj h
      exact q_iret rfl (by decide) dX8_isMark_32 hQ
    · rw [if_neg c] at h
      refine q_aload_n 0 rfl rfl dX8_isMark_12 ?_
      refine q_getR (q_sh2 w) (by decide) (by decide) rfl lfX8_9 dX8_isMark_13 (r := 3) (q_wr2_0 w) ?_
      refine q_aload_n 0 rfl rfl dX8_isMark_16 ?_
      refine q_getR (q_sh2 w) (by decide) (by decide) rfl lfX8_15 dX8_isMark_17 (r := 4) (q_wr2_2 w) ?_
      refine q_iload_n 1 rfl rfl dX8_isMark_20 ?_
      obtain ⟨hg1, h⟩ := q_guard h
      refine q_iald (q_sh4 w) (q_inb_in hg1) dX8_isMark_21 ?_
      obtain ⟨hg2, h⟩ := q_guard h
      refine q_bald (q_sh3 w) (q_inb_in hg2) dX8_isMark_22 ?_
      refine q_iload_n 2 rfl rfl dX8_isMark_23 ?_
      refine q_icmp_ne 31 (by decide) dX8_isMark_24 (fun c => ?_) (fun c => ?_)
      · rw [if_neg c] at h
        refine q_iconst (v := (0 : Int32)) (by decide) dX8_isMark_31 ?_
        obtain rfl := Option.some.inj h
        exact q_iret rfl (by decide) dX8_isMark_32 hQ
      · rw [if_pos c] at h
        refine q_iconst (v := (1 : Int32)) (by decide) dX8_isMark_27 ?_
        refine q_goto 32 (by decide) dX8_isMark_28 ?_
        obtain rfl := Option.some.inj h
        exact q_iret rfl (by decide) dX8_isMark_32 hQ
set_option maxRecDepth 20000 in
theorem sX8_isText_27 {S : QS} {g : QG} {Q : Option Value → QS → Prop}  {y1 : Int32} {y3 : Nat} {x : Int32} {z : (Bool) ⊕ (Int32)} (w : q_Wire S) (h : tX8_isText_27 S y1 y3 x = some z) (hQ : (Sum.elim (fun r0 : Bool => Q (some (.int (q_b r0))) S) (fun y : Int32 => q_L g mX8_isText 4 0 0 Q 0 0 27 [(0, .ref 2), (1, .int y1), (3, .ref y3), (4, .int y)] [] S) z)) : q_L g mX8_isText 4 0 0 Q 0 0 27 [(0, .ref 2), (1, .int y1), (3, .ref y3), (4, .int x)] [] S := by
  unfold tX8_isText_27 at h
  refine q_iload 3 rfl dX8_isText_27 ?_
  refine q_aload_n 2 rfl rfl dX8_isText_29 ?_
  obtain ⟨r1, e2, h⟩ := q_bind h
  obtain ⟨js, own, ix, tx, bs, hj, hr, _⟩ := q_isS_of (fJ0_length_str e2)
  refine q_callT (d := 3) (Mc := mJ0_length_8abf5) (kc := 0) (nc := 0) [] okJ0_length_8abf5 hj hr rfl lmX8_36 inJ0_length_8abf5 seJ0_length_8abf5 rfl (Nat.le_of_ble_eq_true rfl) (Nat.le_of_ble_eq_true rfl) (Nat.le_refl _) (Nat.le_refl _) dX8_isText_30 (q_L.deep (by decide) (kJ0_length_8abf5 (Q := fun r S' => r = some (.int r1) ∧ S' = S)  e2 ⟨rfl, rfl⟩)) (q_kI ?_)
  refine q_icmp_ge 62 (by decide) dX8_isText_33 (fun c => ?_) (fun c => ?_)
  · rw [if_pos c] at h
    refine q_iconst (v := (1 : Int32)) (by decide) dX8_isText_62 ?_
    cases h
    exact q_iret rfl (by decide) dX8_isText_63 hQ
  · rw [if_neg c] at h
    refine q_aload_n 0 rfl rfl dX8_isText_36 ?_
    refine q_getR (q_sh2 w) (by decide) (by decide) rfl lfX8_9 dX8_isText_37 (r := 3) (q_wr2_0 w) ?_
    refine q_iload_n 1 rfl rfl dX8_isText_40 ?_
    refine q_iload 3 rfl dX8_isText_41 ?_
    refine q_iadd dX8_isText_43 ?_
    obtain ⟨hg4, h⟩ := q_guard h
    refine q_bald (q_sh3 w) (q_inb_in hg4) dX8_isText_44 ?_
    refine q_aload_n 2 rfl rfl dX8_isText_45 ?_
    refine q_iload 3 rfl dX8_isText_46 ?_
    obtain ⟨r5, e6, h⟩ := q_bind h
    obtain ⟨js, own, ix, tx, bs, hj, hr, _⟩ := q_isS_of (fJ0_charAt_str e6)
    refine q_callT (d := 3) (Mc := mJ0_charAt_5068e) (kc := 0) (nc := 0) [.int x] okJ0_charAt_5068e hj hr rfl lmX8_41 inJ0_charAt_5068e seJ0_charAt_5068e rfl (Nat.le_of_ble_eq_true rfl) (Nat.le_of_ble_eq_true rfl) (Nat.le_refl _) (Nat.le_refl _) dX8_isText_48 (q_L.deep (by decide) (kJ0_charAt_5068e (Q := fun r S' => r = some (.int r5) ∧ S' = S)  e6 ⟨rfl, rfl⟩)) (q_kI ?_)
    refine q_icmp_eq 56 (by decide) dX8_isText_51 (fun c => ?_) (fun c => ?_)
    · rw [if_pos c] at h
      refine q_iinc (v := (x + (1 : Int32))) 3 [(4, .int (x + (1 : Int32))), (0, .ref 2), (1, .int y1), (3, .ref y3)] (by decide) rfl (congrArg (fun t => x + t) (by decide)) rfl dX8_isText_56 ?_
      refine q_goto 27 (by decide) dX8_isText_59 ?_
      refine q_sub [1, 2, 3, 0] rfl ?_
      cases h
      exact hQ
    · rw [if_neg c] at h
      refine q_iconst (v := (0 : Int32)) (by decide) dX8_isText_54 ?_
      cases h
      exact q_iret rfl (by decide) dX8_isText_55 hQ
theorem lX8_isText_27 {S : QS} {g : QG} {Q : Option Value → QS → Prop}  {y1 : Int32} {y3 : Nat} {r : Bool} (w : q_Wire S) (hQ : Q (some (.int (q_b r))) S) : ∀ (c : Nat) (x : Int32), q_it (tX8_isText_27 S y1 y3) c x = some r → q_L g mX8_isText 4 0 0 Q 0 0 27 [(0, .ref 2), (1, .int y1), (3, .ref y3), (4, .int x)] [] S := by
  intro c
  induction c with
  | zero => intro x  h; cases h
  | succ c ih =>
    intro x  h
    simp only [q_it] at h
    cases hz : tX8_isText_27 S y1 y3 x with
    | none => rw [hz] at h; cases h
    | some z =>
      rw [hz] at h
      refine sX8_isText_27 w hz ?_
      rcases z with z | y
      · cases h; exact hQ
      · exact ih y  h
theorem kX8_isText_27 {S : QS} {g : QG} {Q : Option Value → QS → Prop}  {y1 : Int32} {y3 : Nat} {y4 : Int32} {r : Bool} (w : q_Wire S) (h : fX8_isText_27 S y1 y3 y4 = some r) (hQ : Q (some (.int (q_b r))) S) : q_L g mX8_isText 4 0 0 Q 0 0 27 [(0, .ref 2), (1, .int y1), (3, .ref y3), (4, .int y4)] [] S := by
  obtain ⟨c, hc⟩ := q_run_it h
  exact lX8_isText_27 w hQ c y4  hc
set_option maxRecDepth 20000 in
theorem kX8_isText {S : QS} {g : QG} {Q : Option Value → QS → Prop}  {x1 : Int32} {x2 : Int32} {x3 : Nat} {r : Bool} (w : q_Wire S) (h : fX8_isText S x1 x2 x3 = some r) (hQ : Q (some (.int (q_b r))) S) : q_M g mX8_isText 4 0 0 [.ref 2, .int x1, .int x2, .ref x3] S Q := by
  unfold fX8_isText at h
  show q_L g mX8_isText 4 0 0 Q 0 0 0 [(0, .ref 2), (1, .int x1), (2, .int x2), (3, .ref x3)] [] S
  refine q_iload_n 1 rfl rfl dX8_isText_0 ?_
  refine q_if_lt 22 (by decide) dX8_isText_1 (fun c => ?_) (fun c => ?_)
  · rw [if_pos c] at h
    refine q_iconst (v := (0 : Int32)) (by decide) dX8_isText_22 ?_
    obtain rfl := Option.some.inj h
    exact q_iret rfl (by decide) dX8_isText_23 hQ
  · rw [if_neg c] at h
    refine q_iload_n 2 rfl rfl dX8_isText_4 ?_
    refine q_aload_n 0 rfl rfl dX8_isText_5 ?_
    refine q_getI (q_sh2 w) (by decide) (by decide) rfl lfX8_25 dX8_isText_6 ?_
    refine q_icmp_gt 22 (by decide) dX8_isText_9 (fun c => ?_) (fun c => ?_)
    · rw [if_pos c] at h
      refine q_iconst (v := (0 : Int32)) (by decide) dX8_isText_22 ?_
      obtain rfl := Option.some.inj h
      exact q_iret rfl (by decide) dX8_isText_23 hQ
    · rw [if_neg c] at h
      refine q_iload_n 2 rfl rfl dX8_isText_12 ?_
      refine q_iload_n 1 rfl rfl dX8_isText_13 ?_
      refine q_isub dX8_isText_14 ?_
      refine q_aload_n 3 rfl rfl dX8_isText_15 ?_
      obtain ⟨r8, e9, h⟩ := q_bind h
      obtain ⟨js, own, ix, tx, bs, hj, hr, _⟩ := q_isS_of (fJ0_length_str e9)
      refine q_callT (d := 3) (Mc := mJ0_length_8abf5) (kc := 0) (nc := 0) [] okJ0_length_8abf5 hj hr rfl lmX8_36 inJ0_length_8abf5 seJ0_length_8abf5 rfl (Nat.le_of_ble_eq_true rfl) (Nat.le_of_ble_eq_true rfl) (Nat.le_refl _) (Nat.le_refl _) dX8_isText_16 (q_L.deep (by decide) (kJ0_length_8abf5 (Q := fun r S' => r = some (.int r8) ∧ S' = S)  e9 ⟨rfl, rfl⟩)) (q_kI ?_)
      refine q_icmp_eq 24 (by decide) dX8_isText_19 (fun c => ?_) (fun c => ?_)
      · rw [if_pos c] at h
        refine q_iconst (v := (0 : Int32)) (by decide) dX8_isText_24 ?_
        refine q_istore [(4, .int (0 : Int32)), (0, .ref 2), (1, .int x1), (2, .int x2), (3, .ref x3)] (by decide) rfl dX8_isText_25 ?_
        refine q_sub [1, 2, 4, 0] rfl ?_
        exact kX8_isText_27 w h hQ
      · rw [if_neg c] at h
        refine q_iconst (v := (0 : Int32)) (by decide) dX8_isText_22 ?_
        obtain rfl := Option.some.inj h
        exact q_iret rfl (by decide) dX8_isText_23 hQ
set_option maxRecDepth 20000 in
theorem kX8_isWord {S : QS} {g : QG} {Q : Option Value → QS → Prop}  {x1 : Int32} {x2 : Nat} {r : Bool} (w : q_Wire S) (h : fX8_isWord S x1 x2 = some r) (hQ : Q (some (.int (q_b r))) S) : q_M g mX8_isWord 5 0 0 [.ref 2, .int x1, .ref x2] S Q := by
  unfold fX8_isWord at h
  show q_L g mX8_isWord 5 0 0 Q 0 0 0 [(0, .ref 2), (1, .int x1), (2, .ref x2)] [] S
  refine q_iload_n 1 rfl rfl dX8_isWord_0 ?_
  refine q_if_lt 36 (by decide) dX8_isWord_1 (fun c => ?_) (fun c => ?_)
  · rw [if_pos c] at h
    refine q_iconst (v := (0 : Int32)) (by decide) dX8_isWord_36 ?_
    obtain rfl := Option.some.inj h
    exact q_iret rfl (by decide) dX8_isWord_37 hQ
  · rw [if_neg c] at h
    refine q_iload_n 1 rfl rfl dX8_isWord_4 ?_
    refine q_aload_n 0 rfl rfl dX8_isWord_5 ?_
    refine q_getI (q_sh2 w) (by decide) (by decide) rfl lfX8_29 dX8_isWord_6 ?_
    refine q_icmp_ge 36 (by decide) dX8_isWord_9 (fun c => ?_) (fun c => ?_)
    · rw [if_pos c] at h
      refine q_iconst (v := (0 : Int32)) (by decide) dX8_isWord_36 ?_
      obtain rfl := Option.some.inj h
      exact q_iret rfl (by decide) dX8_isWord_37 hQ
    · rw [if_neg c] at h
      refine q_aload_n 0 rfl rfl dX8_isWord_12 ?_
      refine q_aload_n 0 rfl rfl dX8_isWord_13 ?_
      refine q_getR (q_sh2 w) (by decide) (by decide) rfl lfX8_15 dX8_isWord_14 (r := 4) (q_wr2_2 w) ?_
      refine q_iload_n 1 rfl rfl dX8_isWord_17 ?_
      obtain ⟨hg1, h⟩ := q_guard h
      refine q_iald (q_sh4 w) (q_inb_in hg1) dX8_isWord_18 ?_
      refine q_aload_n 0 rfl rfl dX8_isWord_19 ?_
      refine q_getR (q_sh2 w) (by decide) (by decide) rfl lfX8_19 dX8_isWord_20 (r := 5) (q_wr2_3 w) ?_
      refine q_iload_n 1 rfl rfl dX8_isWord_23 ?_
      obtain ⟨hg2, h⟩ := q_guard h
      refine q_iald (q_sh5 w) (q_inb_in hg2) dX8_isWord_24 ?_
      refine q_aload_n 2 rfl rfl dX8_isWord_25 ?_
      obtain ⟨r3, e4, h⟩ := q_bind h
      refine q_callV (ci := 8) (d := 4) (Mc := mX8_isText) (kc := 0) (nc := 0) [.int (S.2.1 4 x1.toNatClampNeg), .int (S.2.1 5 x1.toNatClampNeg), .ref x2] okX8_isText (q_sh2 w) (by decide) rfl lmX8_32 inX8_isText seX8_isText rfl (Nat.le_of_ble_eq_true rfl) (Nat.le_of_ble_eq_true rfl) (Nat.le_refl _) (Nat.le_refl _) dX8_isWord_26 (q_L.deep (by decide) (kX8_isText (Q := fun r S' => r = some (.int (q_b r3)) ∧ S' = S) w e4 ⟨rfl, rfl⟩)) (q_kI ?_)
      refine q_if_eq 36 (by decide) dX8_isWord_29 (fun c => ?_) (fun c => ?_)
      · have c := q_b_0.mp c; rw [q_if0 c] at h
        refine q_iconst (v := (0 : Int32)) (by decide) dX8_isWord_36 ?_
        obtain rfl := Option.some.inj h
        exact q_iret rfl (by decide) dX8_isWord_37 hQ
      · have c := q_b_n.mp c; rw [q_if1 c] at h
        refine q_iconst (v := (1 : Int32)) (by decide) dX8_isWord_32 ?_
        refine q_goto 37 (by decide) dX8_isWord_33 ?_
        obtain rfl := Option.some.inj h
        exact q_iret rfl (by decide) dX8_isWord_37 hQ
set_option maxRecDepth 20000 in
theorem sX8_same_63 {S : QS} {g : QG} {Q : Option Value → QS → Prop}  {y1 : Int32} {y4 : Int32} {x : Int32} {z : (Bool) ⊕ (Int32)} (w : q_Wire S) (h : tX8_same_63 S y1 y4 x = some z) (hQ : (Sum.elim (fun r0 : Bool => Q (some (.int (q_b r0))) S) (fun y : Int32 => q_L g mX8_same 0 0 0 Q 0 0 63 [(0, .ref 2), (1, .int y1), (4, .int y4), (5, .int y)] [] S) z)) : q_L g mX8_same 0 0 0 Q 0 0 63 [(0, .ref 2), (1, .int y1), (4, .int y4), (5, .int x)] [] S := by
  unfold tX8_same_63 at h
  refine q_iload 3 rfl dX8_same_63 ?_
  refine q_aload_n 0 rfl rfl dX8_same_65 ?_
  refine q_getR (q_sh2 w) (by decide) (by decide) rfl lfX8_19 dX8_same_66 (r := 5) (q_wr2_3 w) ?_
  refine q_iload_n 1 rfl rfl dX8_same_69 ?_
  obtain ⟨hg1, h⟩ := q_guard h
  refine q_iald (q_sh5 w) (q_inb_in hg1) dX8_same_70 ?_
  refine q_icmp_ge 102 (by decide) dX8_same_71 (fun c => ?_) (fun c => ?_)
  · rw [if_pos c] at h
    refine q_iconst (v := (1 : Int32)) (by decide) dX8_same_102 ?_
    cases h
    exact q_iret rfl (by decide) dX8_same_103 hQ
  · rw [if_neg c] at h
    refine q_aload_n 0 rfl rfl dX8_same_74 ?_
    refine q_getR (q_sh2 w) (by decide) (by decide) rfl lfX8_9 dX8_same_75 (r := 3) (q_wr2_0 w) ?_
    refine q_iload 3 rfl dX8_same_78 ?_
    obtain ⟨hg2, h⟩ := q_guard h
    refine q_bald (q_sh3 w) (q_inb_in hg2) dX8_same_80 ?_
    refine q_aload_n 0 rfl rfl dX8_same_81 ?_
    refine q_getR (q_sh2 w) (by decide) (by decide) rfl lfX8_9 dX8_same_82 (r := 3) (q_wr2_0 w) ?_
    refine q_iload 3 rfl dX8_same_85 ?_
    refine q_iload 2 rfl dX8_same_87 ?_
    refine q_iadd dX8_same_89 ?_
    obtain ⟨hg3, h⟩ := q_guard h
    refine q_bald (q_sh3 w) (q_inb_in hg3) dX8_same_90 ?_
    refine q_icmp_eq 96 (by decide) dX8_same_91 (fun c => ?_) (fun c => ?_)
    · rw [if_pos c] at h
      refine q_iinc (v := (x + (1 : Int32))) 3 [(5, .int (x + (1 : Int32))), (0, .ref 2), (1, .int y1), (4, .int y4)] (by decide) rfl (congrArg (fun t => x + t) (by decide)) rfl dX8_same_96 ?_
      refine q_goto 63 (by decide) dX8_same_99 ?_
      refine q_sub [1, 2, 3, 0] rfl ?_
      cases h
      exact hQ
    · rw [if_neg c] at h
      refine q_iconst (v := (0 : Int32)) (by decide) dX8_same_94 ?_
      cases h
      exact q_iret rfl (by decide) dX8_same_95 hQ
theorem lX8_same_63 {S : QS} {g : QG} {Q : Option Value → QS → Prop}  {y1 : Int32} {y4 : Int32} {r : Bool} (w : q_Wire S) (hQ : Q (some (.int (q_b r))) S) : ∀ (c : Nat) (x : Int32), q_it (tX8_same_63 S y1 y4) c x = some r → q_L g mX8_same 0 0 0 Q 0 0 63 [(0, .ref 2), (1, .int y1), (4, .int y4), (5, .int x)] [] S := by
  intro c
  induction c with
  | zero => intro x  h; cases h
  | succ c ih =>
    intro x  h
    simp only [q_it] at h
    cases hz : tX8_same_63 S y1 y4 x with
    | none => rw [hz] at h; cases h
    | some z =>
      rw [hz] at h
      refine sX8_same_63 w hz ?_
      rcases z with z | y
      · cases h; exact hQ
      · exact ih y  h
theorem kX8_same_63 {S : QS} {g : QG} {Q : Option Value → QS → Prop}  {y1 : Int32} {y4 : Int32} {y5 : Int32} {r : Bool} (w : q_Wire S) (h : fX8_same_63 S y1 y4 y5 = some r) (hQ : Q (some (.int (q_b r))) S) : q_L g mX8_same 0 0 0 Q 0 0 63 [(0, .ref 2), (1, .int y1), (4, .int y4), (5, .int y5)] [] S := by
  obtain ⟨c, hc⟩ := q_run_it h
  exact lX8_same_63 w hQ c y5  hc
set_option maxRecDepth 20000 in
theorem kX8_same {S : QS} {g : QG} {Q : Option Value → QS → Prop}  {x1 : Int32} {x2 : Int32} {x3 : Int32} {r : Bool} (w : q_Wire S) (h : fX8_same S x1 x2 x3 = some r) (hQ : Q (some (.int (q_b r))) S) : q_M g mX8_same 0 0 0 [.ref 2, .int x1, .int x2, .int x3] S Q := by
  unfold fX8_same at h
  show q_L g mX8_same 0 0 0 Q 0 0 0 [(0, .ref 2), (1, .int x1), (2, .int x2), (3, .int x3)] [] S
  refine q_iload_n 1 rfl rfl dX8_same_0 ?_
  refine q_if_lt 43 (by decide) dX8_same_1 (fun c => ?_) (fun c => ?_)
  · rw [if_pos c] at h
    refine q_iconst (v := (0 : Int32)) (by decide) dX8_same_43 ?_
    obtain rfl := Option.some.inj h
    exact q_iret rfl (by decide) dX8_same_44 hQ
  · rw [if_neg c] at h
    refine q_iload_n 1 rfl rfl dX8_same_4 ?_
    refine q_aload_n 0 rfl rfl dX8_same_5 ?_
    refine q_getI (q_sh2 w) (by decide) (by decide) rfl lfX8_29 dX8_same_6 ?_
    refine q_icmp_ge 43 (by decide) dX8_same_9 (fun c => ?_) (fun c => ?_)
    · rw [if_pos c] at h
      refine q_iconst (v := (0 : Int32)) (by decide) dX8_same_43 ?_
      obtain rfl := Option.some.inj h
      exact q_iret rfl (by decide) dX8_same_44 hQ
    · rw [if_neg c] at h
      refine q_iload_n 2 rfl rfl dX8_same_12 ?_
      refine q_if_lt 43 (by decide) dX8_same_13 (fun c => ?_) (fun c => ?_)
      · rw [if_pos c] at h
        refine q_iconst (v := (0 : Int32)) (by decide) dX8_same_43 ?_
        obtain rfl := Option.some.inj h
        exact q_iret rfl (by decide) dX8_same_44 hQ
      · rw [if_neg c] at h
        refine q_iload_n 3 rfl rfl dX8_same_16 ?_
        refine q_aload_n 0 rfl rfl dX8_same_17 ?_
        refine q_getI (q_sh2 w) (by decide) (by decide) rfl lfX8_25 dX8_same_18 ?_
        refine q_icmp_gt 43 (by decide) dX8_same_21 (fun c => ?_) (fun c => ?_)
        · rw [if_pos c] at h
          refine q_iconst (v := (0 : Int32)) (by decide) dX8_same_43 ?_
          obtain rfl := Option.some.inj h
          exact q_iret rfl (by decide) dX8_same_44 hQ
        · rw [if_neg c] at h
          refine q_iload_n 3 rfl rfl dX8_same_24 ?_
          refine q_iload_n 2 rfl rfl dX8_same_25 ?_
          refine q_isub dX8_same_26 ?_
          refine q_aload_n 0 rfl rfl dX8_same_27 ?_
          refine q_getR (q_sh2 w) (by decide) (by decide) rfl lfX8_19 dX8_same_28 (r := 5) (q_wr2_3 w) ?_
          refine q_iload_n 1 rfl rfl dX8_same_31 ?_
          obtain ⟨hg4, h⟩ := q_guard h
          refine q_iald (q_sh5 w) (q_inb_in hg4) dX8_same_32 ?_
          refine q_aload_n 0 rfl rfl dX8_same_33 ?_
          refine q_getR (q_sh2 w) (by decide) (by decide) rfl lfX8_15 dX8_same_34 (r := 4) (q_wr2_2 w) ?_
          refine q_iload_n 1 rfl rfl dX8_same_37 ?_
          obtain ⟨hg5, h⟩ := q_guard h
          refine q_iald (q_sh4 w) (q_inb_in hg5) dX8_same_38 ?_
          refine q_isub dX8_same_39 ?_
          refine q_icmp_eq 45 (by decide) dX8_same_40 (fun c => ?_) (fun c => ?_)
          · rw [if_pos c] at h
            refine q_iload_n 2 rfl rfl dX8_same_45 ?_
            refine q_aload_n 0 rfl rfl dX8_same_46 ?_
            refine q_getR (q_sh2 w) (by decide) (by decide) rfl lfX8_15 dX8_same_47 (r := 4) (q_wr2_2 w) ?_
            refine q_iload_n 1 rfl rfl dX8_same_50 ?_
            obtain ⟨hg6, h⟩ := q_guard h
            refine q_iald (q_sh4 w) (q_inb_in hg6) dX8_same_51 ?_
            refine q_isub dX8_same_52 ?_
            refine q_istore [(4, .int (x2 - (S.2.1 4 x1.toNatClampNeg))), (0, .ref 2), (1, .int x1), (2, .int x2), (3, .int x3)] (by decide) rfl dX8_same_53 ?_
            refine q_aload_n 1 rfl rfl dX8_same_55 ?_
            refine q_getR (q_sh2 w) (by decide) (by decide) rfl lfX8_15 dX8_same_56 (r := 4) (q_wr2_2 w) ?_
            refine q_iload_n 2 rfl rfl dX8_same_59 ?_
            obtain ⟨hg7, h⟩ := q_guard h
            refine q_iald (q_sh4 w) (q_inb_in hg7) dX8_same_60 ?_
            refine q_istore [(5, .int (S.2.1 4 x1.toNatClampNeg)), (4, .int (x2 - (S.2.1 4 x1.toNatClampNeg))), (0, .ref 2), (1, .int x1), (2, .int x2), (3, .int x3)] (by decide) rfl dX8_same_61 ?_
            refine q_sub [2, 3, 1, 0] rfl ?_
            exact kX8_same_63 w h hQ
          · rw [if_neg c] at h
            refine q_iconst (v := (0 : Int32)) (by decide) dX8_same_43 ?_
            obtain rfl := Option.some.inj h
            exact q_iret rfl (by decide) dX8_same_44 hQ
set_option maxRecDepth 20000 in
theorem usX8_numberIn_102 {S : QS} {g : QG} {Q : Option Value → QS → Prop}  {y1 : Nat} {y2 : Int32} {y3 : Int32} {y4 : Int32} {y7 : Int32} {z : (Int32) ⊕ (Int32 × Int32 × Int32 × Int32)} (w : q_Wire S) (h : uX8_numberIn_102 S y1 y2 y3 y4 y7 = some z) (hQ : (Sum.elim (fun r0 : Int32 => Q (some (.int r0)) S) (fun y : Int32 × Int32 × Int32 × Int32 => q_L g mX8_numberIn 4 0 0 Q 0 0 28 [(0, .ref 2), (1, .ref y1), (2, .int y2), (3, .int y3), (4, .int y.1), (5, .int y.2.1), (6, .int y.2.2.1), (7, .int y.2.2.2)] [] S) z)) : q_L g mX8_numberIn 4 0 0 Q 0 0 102 [(0, .ref 2), (1, .ref y1), (2, .int y2), (3, .int y3), (4, .int y4), (7, .int y7)] [] S := by
  unfold uX8_numberIn_102 at h
  refine q_iinc (v := (y4 + (1 : Int32))) 4 [(4, .int (y4 + (1 : Int32))), (0, .ref 2), (1, .ref y1), (2, .int y2), (3, .int y3), (7, .int y7)] (by decide) rfl (congrArg (fun t => y4 + t) (by decide)) rfl dX8_numberIn_102 ?_
  refine q_iload_n 3 rfl rfl dX8_numberIn_105 ?_
  refine q_istore [(5, .int y2), (4, .int (y4 + (1 : Int32))), (0, .ref 2), (1, .ref y1), (2, .int y2), (3, .int y3), (7, .int y7)] (by decide) rfl dX8_numberIn_106 ?_
  refine q_iload_n 4 rfl rfl dX8_numberIn_108 ?_
  refine q_if_lt 124 (by decide) dX8_numberIn_109 (fun c => ?_) (fun c => ?_)
  · rw [if_pos c] at h
    refine q_iconst (v := (0 : Int32)) (by decide) dX8_numberIn_124 ?_
    refine q_istore [(6, .int (0 : Int32)), (5, .int y2), (4, .int (y4 + (1 : Int32))), (0, .ref 2), (1, .ref y1), (2, .int y2), (3, .int y3), (7, .int y7)] (by decide) rfl dX8_numberIn_125 ?_
    refine q_iinc (v := (y7 + (1 : Int32))) 7 [(7, .int (y7 + (1 : Int32))), (6, .int (0 : Int32)), (5, .int y2), (4, .int (y4 + (1 : Int32))), (0, .ref 2), (1, .ref y1), (2, .int y2), (3, .int y3)] (by decide) rfl (congrArg (fun t => y7 + t) (by decide)) rfl dX8_numberIn_127 ?_
    refine q_goto 28 (by decide) dX8_numberIn_130 ?_
    refine q_sub [4, 5, 6, 7, 3, 2, 1, 0] rfl ?_
    cases h
    exact hQ
  · rw [if_neg c] at h
    refine q_iload_n 5 rfl rfl dX8_numberIn_112 ?_
    refine q_aload_n 2 rfl rfl dX8_numberIn_113 ?_
    refine q_getI (q_sh2 w) (by decide) (by decide) rfl lfX8_25 dX8_numberIn_114 ?_
    refine q_icmp_gt 124 (by decide) dX8_numberIn_117 (fun c => ?_) (fun c => ?_)
    · rw [if_pos c] at h
      refine q_iconst (v := (0 : Int32)) (by decide) dX8_numberIn_124 ?_
      refine q_istore [(6, .int (0 : Int32)), (5, .int y2), (4, .int (y4 + (1 : Int32))), (0, .ref 2), (1, .ref y1), (2, .int y2), (3, .int y3), (7, .int y7)] (by decide) rfl dX8_numberIn_125 ?_
      refine q_iinc (v := (y7 + (1 : Int32))) 7 [(7, .int (y7 + (1 : Int32))), (6, .int (0 : Int32)), (5, .int y2), (4, .int (y4 + (1 : Int32))), (0, .ref 2), (1, .ref y1), (2, .int y2), (3, .int y3)] (by decide) rfl (congrArg (fun t => y7 + t) (by decide)) rfl dX8_numberIn_127 ?_
      refine q_goto 28 (by decide) dX8_numberIn_130 ?_
      refine q_sub [4, 5, 6, 7, 3, 2, 1, 0] rfl ?_
      cases h
      exact hQ
    · rw [if_neg c] at h
      refine q_iconst (v := (1 : Int32)) (by decide) dX8_numberIn_120 ?_
      refine q_goto 125 (by decide) dX8_numberIn_121 ?_
      refine q_istore [(6, .int (1 : Int32)), (5, .int y2), (4, .int (y4 + (1 : Int32))), (0, .ref 2), (1, .ref y1), (2, .int y2), (3, .int y3), (7, .int y7)] (by decide) rfl dX8_numberIn_125 ?_
      refine q_iinc (v := (y7 + (1 : Int32))) 7 [(7, .int (y7 + (1 : Int32))), (6, .int (1 : Int32)), (5, .int y2), (4, .int (y4 + (1 : Int32))), (0, .ref 2), (1, .ref y1), (2, .int y2), (3, .int y3)] (by decide) rfl (congrArg (fun t => y7 + t) (by decide)) rfl dX8_numberIn_127 ?_
      refine q_goto 28 (by decide) dX8_numberIn_130 ?_
      refine q_sub [4, 5, 6, 7, 3, 2, 1, 0] rfl ?_
      cases h
      exact hQ
set_option maxRecDepth 20000 in
theorem sX8_numberIn_28 {S : QS} {g : QG} {Q : Option Value → QS → Prop}  {y1 : Nat} {y2 : Int32} {y3 : Int32} {x : Int32 × Int32 × Int32 × Int32} {z : (Int32) ⊕ (Int32 × Int32 × Int32 × Int32)} (w : q_Wire S) (h : tX8_numberIn_28 S y1 y2 y3 x = some z) (hQ : (Sum.elim (fun r0 : Int32 => Q (some (.int r0)) S) (fun y : Int32 × Int32 × Int32 × Int32 => q_L g mX8_numberIn 4 0 0 Q 0 0 28 [(0, .ref 2), (1, .ref y1), (2, .int y2), (3, .int y3), (4, .int y.1), (5, .int y.2.1), (6, .int y.2.2.1), (7, .int y.2.2.2)] [] S) z)) : q_L g mX8_numberIn 4 0 0 Q 0 0 28 [(0, .ref 2), (1, .ref y1), (2, .int y2), (3, .int y3), (4, .int x.1), (5, .int x.2.1), (6, .int x.2.2.1), (7, .int x.2.2.2)] [] S := by
  unfold tX8_numberIn_28 at h
  refine q_iload 7 rfl dX8_numberIn_28 ?_
  refine q_aload_n 1 rfl rfl dX8_numberIn_30 ?_
  obtain ⟨r1, e2, h⟩ := q_bind h
  obtain ⟨js, own, ix, tx, bs, hj, hr, _⟩ := q_isS_of (fJ0_length_str e2)
  refine q_callT (d := 3) (Mc := mJ0_length_8abf5) (kc := 0) (nc := 0) [] okJ0_length_8abf5 hj hr rfl lmX8_36 inJ0_length_8abf5 seJ0_length_8abf5 rfl (Nat.le_of_ble_eq_true rfl) (Nat.le_of_ble_eq_true rfl) (Nat.le_refl _) (Nat.le_refl _) dX8_numberIn_31 (q_L.deep (by decide) (kJ0_length_8abf5 (Q := fun r S' => r = some (.int r1) ∧ S' = S)  e2 ⟨rfl, rfl⟩)) (q_kI ?_)
  refine q_icmp_ge 133 (by decide) dX8_numberIn_34 (fun c => ?_) (fun c => ?_)
  · rw [if_pos c] at h
    refine q_iload 6 rfl dX8_numberIn_133 ?_
    refine q_if_eq 149 (by decide) dX8_numberIn_135 (fun c => ?_) (fun c => ?_)
    · rw [if_pos c] at h
      refine q_iconst (v := (-1 : Int32)) (by decide) dX8_numberIn_149 ?_
      cases h
      exact q_iret rfl rfl dX8_numberIn_150 hQ
    · rw [if_neg c] at h
      refine q_iload 5 rfl dX8_numberIn_138 ?_
      refine q_iload_n 3 rfl rfl dX8_numberIn_140 ?_
      refine q_icmp_ne 149 (by decide) dX8_numberIn_141 (fun c => ?_) (fun c => ?_)
      · rw [if_neg c] at h
        refine q_iconst (v := (-1 : Int32)) (by decide) dX8_numberIn_149 ?_
        cases h
        exact q_iret rfl rfl dX8_numberIn_150 hQ
      · rw [if_pos c] at h
        refine q_iload 4 rfl dX8_numberIn_144 ?_
        refine q_goto 150 (by decide) dX8_numberIn_146 ?_
        cases h
        exact q_iret rfl rfl dX8_numberIn_150 hQ
  · rw [if_neg c] at h
    refine q_aload_n 1 rfl rfl dX8_numberIn_37 ?_
    refine q_iload 7 rfl dX8_numberIn_38 ?_
    obtain ⟨r4, e5, h⟩ := q_bind h
    obtain ⟨js, own, ix, tx, bs, hj, hr, _⟩ := q_isS_of (fJ0_charAt_str e5)
    refine q_callT (d := 3) (Mc := mJ0_charAt_5068e) (kc := 0) (nc := 0) [.int x.2.2.2] okJ0_charAt_5068e hj hr rfl lmX8_41 inJ0_charAt_5068e seJ0_charAt_5068e rfl (Nat.le_of_ble_eq_true rfl) (Nat.le_of_ble_eq_true rfl) (Nat.le_refl _) (Nat.le_refl _) dX8_numberIn_40 (q_L.deep (by decide) (kJ0_charAt_5068e (Q := fun r S' => r = some (.int r4) ∧ S' = S)  e5 ⟨rfl, rfl⟩)) (q_kI ?_)
    refine q_istore [(8, .int r4), (0, .ref 2), (1, .ref y1), (2, .int y2), (3, .int y3), (4, .int x.1), (5, .int x.2.1), (6, .int x.2.2.1), (7, .int x.2.2.2)] (by decide) rfl dX8_numberIn_43 ?_
    refine q_iload 0 rfl dX8_numberIn_45 ?_
    refine q_bipush (v := (32 : Int32)) (by decide) dX8_numberIn_47 ?_
    refine q_icmp_eq 88 (by decide) dX8_numberIn_49 (fun c => ?_) (fun c => ?_)
    · rw [if_pos c] at h
      refine q_iload 7 rfl dX8_numberIn_88 ?_
      refine q_if_eq 102 (by decide) dX8_numberIn_90 (fun c => ?_) (fun c => ?_)
      · rw [if_pos c] at h
        refine q_sub [1, 2, 3, 4, 5, 8] rfl ?_
        exact usX8_numberIn_102 w h hQ
      · rw [if_neg c] at h
        refine q_iload 6 rfl dX8_numberIn_93 ?_
        refine q_iload_n 4 rfl rfl dX8_numberIn_95 ?_
        refine q_icmp_ne 102 (by decide) dX8_numberIn_96 (fun c => ?_) (fun c => ?_)
        · rw [if_neg c] at h
          refine q_sub [1, 2, 3, 4, 5, 8] rfl ?_
          exact usX8_numberIn_102 w h hQ
        · rw [if_pos c] at h
          refine q_iload 5 rfl dX8_numberIn_99 ?_
          cases h
          exact q_iret rfl rfl dX8_numberIn_101 hQ
    · rw [if_neg c] at h
      refine q_iload 7 rfl dX8_numberIn_52 ?_
      obtain ⟨v8, hv, h⟩ := q_bind h
      have K1 : q_L g mX8_numberIn 4 0 0 Q 0 0 80 [(0, .ref 2), (1, .ref y1), (2, .int y2), (3, .int y3), (4, .int x.1), (5, .int x.2.1), (7, .int x.2.2.2)] [.int (q_b v8)] S := by
        refine q_istore [(6, .int (q_b v8)), (0, .ref 2), (1, .ref y1), (2, .int y2), (3, .int y3), (4, .int x.1), (5, .int x.2.1), (7, .int x.2.2.2)] (by decide) rfl dX8_numberIn_80 ?_
        refine q_iinc (v := (x.2.1 + (1 : Int32))) 6 [(5, .int (x.2.1 + (1 : Int32))), (6, .int (q_b v8)), (0, .ref 2), (1, .ref y1), (2, .int y2), (3, .int y3), (4, .int x.1), (7, .int x.2.2.2)] (by decide) rfl (congrArg (fun t => x.2.1 + t) (by decide)) rfl dX8_numberIn_82 ?_
        refine q_goto 127 (by decide) dX8_numberIn_85 ?_
        refine q_iinc (v := (x.2.2.2 + (1 : Int32))) 7 [(7, .int (x.2.2.2 + (1 : Int32))), (5, .int (x.2.1 + (1 : Int32))), (6, .int (q_b v8)), (0, .ref 2), (1, .ref y1), (2, .int y2), (3, .int y3), (4, .int x.1)] (by decide) rfl (congrArg (fun t => x.2.2.2 + t) (by decide)) rfl dX8_numberIn_127 ?_
        refine q_goto 28 (by decide) dX8_numberIn_130 ?_
        refine q_sub [3, 4, 5, 6, 7, 1, 2, 0] rfl ?_
        cases h
        exact hQ
      replace h := hv
      refine q_if_eq 79 (by decide) dX8_numberIn_54 (fun c => ?_) (fun c => ?_)
      · rw [if_pos c] at h
        refine q_iconst (v := (0 : Int32)) (by decide) dX8_numberIn_79 ?_
        obtain rfl := Option.some.inj h
        refine q_sub [1, 2, 3, 4, 5, 6, 8] rfl ?_
        exact K1
      · rw [if_neg c] at h
        refine q_iload 6 rfl dX8_numberIn_57 ?_
        refine q_iload_n 4 rfl rfl dX8_numberIn_59 ?_
        refine q_icmp_ge 79 (by decide) dX8_numberIn_60 (fun c => ?_) (fun c => ?_)
        · rw [if_pos c] at h
          refine q_iconst (v := (0 : Int32)) (by decide) dX8_numberIn_79 ?_
          obtain rfl := Option.some.inj h
          refine q_sub [1, 2, 3, 4, 5, 6, 8] rfl ?_
          exact K1
        · rw [if_neg c] at h
          refine q_aload_n 1 rfl rfl dX8_numberIn_63 ?_
          refine q_getR (q_sh2 w) (by decide) (by decide) rfl lfX8_9 dX8_numberIn_64 (r := 3) (q_wr2_0 w) ?_
          refine q_iload 6 rfl dX8_numberIn_67 ?_
          obtain ⟨hg7, h⟩ := q_guard h
          refine q_bald (q_sh3 w) (q_inb_in hg7) dX8_numberIn_69 ?_
          refine q_iload 0 rfl dX8_numberIn_70 ?_
          refine q_icmp_ne 79 (by decide) dX8_numberIn_72 (fun c => ?_) (fun c => ?_)
          · rw [if_neg c] at h
            refine q_iconst (v := (0 : Int32)) (by decide) dX8_numberIn_79 ?_
            obtain rfl := Option.some.inj h
            refine q_sub [1, 2, 3, 4, 5, 6, 8] rfl ?_
            exact K1
          · rw [if_pos c] at h
            refine q_iconst (v := (1 : Int32)) (by decide) dX8_numberIn_75 ?_
            refine q_goto 80 (by decide) dX8_numberIn_76 ?_
            obtain rfl := Option.some.inj h
            refine q_sub [1, 2, 3, 4, 5, 6, 8] rfl ?_
            exact K1
theorem lX8_numberIn_28 {S : QS} {g : QG} {Q : Option Value → QS → Prop}  {y1 : Nat} {y2 : Int32} {y3 : Int32} {r : Int32} (w : q_Wire S) (hQ : Q (some (.int r)) S) : ∀ (c : Nat) (x : Int32 × Int32 × Int32 × Int32), q_it (tX8_numberIn_28 S y1 y2 y3) c x = some r → q_L g mX8_numberIn 4 0 0 Q 0 0 28 [(0, .ref 2), (1, .ref y1), (2, .int y2), (3, .int y3), (4, .int x.1), (5, .int x.2.1), (6, .int x.2.2.1), (7, .int x.2.2.2)] [] S := by
  intro c
  induction c with
  | zero => intro x  h; cases h
  | succ c ih =>
    intro x  h
    simp only [q_it] at h
    cases hz : tX8_numberIn_28 S y1 y2 y3 x with
    | none => rw [hz] at h; cases h
    | some z =>
      rw [hz] at h
      refine sX8_numberIn_28 w hz ?_
      rcases z with z | y
      · cases h; exact hQ
      · exact ih y  h
theorem kX8_numberIn_28 {S : QS} {g : QG} {Q : Option Value → QS → Prop}  {y1 : Nat} {y2 : Int32} {y3 : Int32} {y4 : Int32} {y5 : Int32} {y6 : Int32} {y7 : Int32} {r : Int32} (w : q_Wire S) (h : fX8_numberIn_28 S y1 y2 y3 y4 y5 y6 y7 = some r) (hQ : Q (some (.int r)) S) : q_L g mX8_numberIn 4 0 0 Q 0 0 28 [(0, .ref 2), (1, .ref y1), (2, .int y2), (3, .int y3), (4, .int y4), (5, .int y5), (6, .int y6), (7, .int y7)] [] S := by
  obtain ⟨c, hc⟩ := q_run_it h
  exact lX8_numberIn_28 w hQ c (y4, y5, y6, y7)  hc
set_option maxRecDepth 20000 in
theorem kX8_numberIn {S : QS} {g : QG} {Q : Option Value → QS → Prop}  {x1 : Nat} {x2 : Int32} {x3 : Int32} {r : Int32} (w : q_Wire S) (h : fX8_numberIn S x1 x2 x3 = some r) (hQ : Q (some (.int r)) S) : q_M g mX8_numberIn 4 0 0 [.ref 2, .ref x1, .int x2, .int x3] S Q := by
  unfold fX8_numberIn at h
  show q_L g mX8_numberIn 4 0 0 Q 0 0 0 [(0, .ref 2), (1, .ref x1), (2, .int x2), (3, .int x3)] [] S
  refine q_iconst (v := (0 : Int32)) (by decide) dX8_numberIn_0 ?_
  refine q_istore [(4, .int (0 : Int32)), (0, .ref 2), (1, .ref x1), (2, .int x2), (3, .int x3)] (by decide) rfl dX8_numberIn_1 ?_
  refine q_iload_n 3 rfl rfl dX8_numberIn_3 ?_
  refine q_istore [(5, .int x2), (4, .int (0 : Int32)), (0, .ref 2), (1, .ref x1), (2, .int x2), (3, .int x3)] (by decide) rfl dX8_numberIn_4 ?_
  refine q_iload_n 4 rfl rfl dX8_numberIn_6 ?_
  refine q_if_lt 22 (by decide) dX8_numberIn_7 (fun c => ?_) (fun c => ?_)
  · rw [if_pos c] at h
    refine q_iconst (v := (0 : Int32)) (by decide) dX8_numberIn_22 ?_
    refine q_istore [(6, .int (0 : Int32)), (5, .int x2), (4, .int (0 : Int32)), (0, .ref 2), (1, .ref x1), (2, .int x2), (3, .int x3)] (by decide) rfl dX8_numberIn_23 ?_
    refine q_iconst (v := (0 : Int32)) (by decide) dX8_numberIn_25 ?_
    refine q_istore [(7, .int (0 : Int32)), (6, .int (0 : Int32)), (5, .int x2), (4, .int (0 : Int32)), (0, .ref 2), (1, .ref x1), (2, .int x2), (3, .int x3)] (by decide) rfl dX8_numberIn_26 ?_
    refine q_sub [4, 5, 6, 7, 3, 2, 1, 0] rfl ?_
    exact kX8_numberIn_28 w h hQ
  · rw [if_neg c] at h
    refine q_iload_n 5 rfl rfl dX8_numberIn_10 ?_
    refine q_aload_n 2 rfl rfl dX8_numberIn_11 ?_
    refine q_getI (q_sh2 w) (by decide) (by decide) rfl lfX8_25 dX8_numberIn_12 ?_
    refine q_icmp_gt 22 (by decide) dX8_numberIn_15 (fun c => ?_) (fun c => ?_)
    · rw [if_pos c] at h
      refine q_iconst (v := (0 : Int32)) (by decide) dX8_numberIn_22 ?_
      refine q_istore [(6, .int (0 : Int32)), (5, .int x2), (4, .int (0 : Int32)), (0, .ref 2), (1, .ref x1), (2, .int x2), (3, .int x3)] (by decide) rfl dX8_numberIn_23 ?_
      refine q_iconst (v := (0 : Int32)) (by decide) dX8_numberIn_25 ?_
      refine q_istore [(7, .int (0 : Int32)), (6, .int (0 : Int32)), (5, .int x2), (4, .int (0 : Int32)), (0, .ref 2), (1, .ref x1), (2, .int x2), (3, .int x3)] (by decide) rfl dX8_numberIn_26 ?_
      refine q_sub [4, 5, 6, 7, 3, 2, 1, 0] rfl ?_
      exact kX8_numberIn_28 w h hQ
    · rw [if_neg c] at h
      refine q_iconst (v := (1 : Int32)) (by decide) dX8_numberIn_18 ?_
      refine q_goto 23 (by decide) dX8_numberIn_19 ?_
      refine q_istore [(6, .int (1 : Int32)), (5, .int x2), (4, .int (0 : Int32)), (0, .ref 2), (1, .ref x1), (2, .int x2), (3, .int x3)] (by decide) rfl dX8_numberIn_23 ?_
      refine q_iconst (v := (0 : Int32)) (by decide) dX8_numberIn_25 ?_
      refine q_istore [(7, .int (0 : Int32)), (6, .int (1 : Int32)), (5, .int x2), (4, .int (0 : Int32)), (0, .ref 2), (1, .ref x1), (2, .int x2), (3, .int x3)] (by decide) rfl dX8_numberIn_26 ?_
      refine q_sub [4, 5, 6, 7, 3, 2, 1, 0] rfl ?_
      exact kX8_numberIn_28 w h hQ
set_option maxRecDepth 20000 in
theorem sX8_isNamed_55 {S : QS} {g : QG} {Q : Option Value → QS → Prop}  {y2 : Int32} {x : Int32} {z : (Bool) ⊕ (Int32)} (w : q_Wire S) (h : tX8_isNamed_55 S y2 x = some z) (hQ : (Sum.elim (fun r0 : Bool => Q (some (.int (q_b r0))) S) (fun y : Int32 => q_L g mX8_isNamed 0 0 0 Q 0 0 55 [(0, .ref 2), (2, .int y2), (4, .int y)] [] S) z)) : q_L g mX8_isNamed 0 0 0 Q 0 0 55 [(0, .ref 2), (2, .int y2), (4, .int x)] [] S := by
  unfold tX8_isNamed_55 at h
  refine q_iload 2 rfl dX8_isNamed_55 ?_
  refine q_iload_n 1 rfl rfl dX8_isNamed_57 ?_
  refine q_icmp_ge 139 (by decide) dX8_isNamed_58 (fun c => ?_) (fun c => ?_)
  · rw [if_pos c] at h
    refine q_iconst (v := (1 : Int32)) (by decide) dX8_isNamed_139 ?_
    cases h
    exact q_iret rfl (by decide) dX8_isNamed_140 hQ
  · rw [if_neg c] at h
    refine q_aload_n 0 rfl rfl dX8_isNamed_61 ?_
    refine q_getR (q_sh2 w) (by decide) (by decide) rfl lfX8_9 dX8_isNamed_62 (r := 3) (q_wr2_0 w) ?_
    refine q_iload 2 rfl dX8_isNamed_65 ?_
    obtain ⟨hg1, h⟩ := q_guard h
    refine q_bald (q_sh3 w) (q_inb_in hg1) dX8_isNamed_67 ?_
    refine q_istore [(5, .int (S.2.1 3 x.toNatClampNeg)), (0, .ref 2), (2, .int y2), (4, .int x)] (by decide) rfl dX8_isNamed_68 ?_
    refine q_iload 0 rfl dX8_isNamed_70 ?_
    refine q_bipush (v := (97 : Int32)) (by decide) dX8_isNamed_72 ?_
    obtain ⟨v2, hv, h⟩ := q_bind h
    have K1 : q_L g mX8_isNamed 0 0 0 Q 0 0 103 [(0, .ref 2), (2, .int y2), (4, .int x), (5, .int (S.2.1 3 x.toNatClampNeg))] [.int (q_b v2)] S := by
      refine q_istore [(6, .int (q_b v2)), (0, .ref 2), (2, .int y2), (4, .int x), (5, .int (S.2.1 3 x.toNatClampNeg))] (by decide) rfl dX8_isNamed_103 ?_
      refine q_iload 0 rfl dX8_isNamed_105 ?_
      refine q_if_ne 133 (by decide) dX8_isNamed_107 (fun c => ?_) (fun c => ?_)
      · have c := q_b_n.mp c; rw [q_if1 c] at h
        refine q_iinc (v := (x + (1 : Int32))) 3 [(4, .int (x + (1 : Int32))), (6, .int (q_b v2)), (0, .ref 2), (2, .int y2), (5, .int (S.2.1 3 x.toNatClampNeg))] (by decide) rfl (congrArg (fun t => x + t) (by decide)) rfl dX8_isNamed_133 ?_
        refine q_goto 55 (by decide) dX8_isNamed_136 ?_
        refine q_sub [2, 3, 0] rfl ?_
        cases h
        exact hQ
      · have c := q_b_0.mp c; rw [q_if0 c] at h
        refine q_iload 4 rfl dX8_isNamed_110 ?_
        refine q_bipush (v := (95 : Int32)) (by decide) dX8_isNamed_112 ?_
        refine q_icmp_eq 133 (by decide) dX8_isNamed_114 (fun c => ?_) (fun c => ?_)
        · rw [if_pos c] at h
          refine q_iinc (v := (x + (1 : Int32))) 3 [(4, .int (x + (1 : Int32))), (6, .int (q_b v2)), (0, .ref 2), (2, .int y2), (5, .int (S.2.1 3 x.toNatClampNeg))] (by decide) rfl (congrArg (fun t => x + t) (by decide)) rfl dX8_isNamed_133 ?_
          refine q_goto 55 (by decide) dX8_isNamed_136 ?_
          refine q_sub [2, 3, 0] rfl ?_
          cases h
          exact hQ
        · rw [if_neg c] at h
          refine q_iload 4 rfl dX8_isNamed_117 ?_
          refine q_bipush (v := (48 : Int32)) (by decide) dX8_isNamed_119 ?_
          refine q_icmp_lt 131 (by decide) dX8_isNamed_121 (fun c => ?_) (fun c => ?_)
          · rw [if_pos c] at h
            refine q_iconst (v := (0 : Int32)) (by decide) dX8_isNamed_131 ?_
            cases h
            exact q_iret rfl (by decide) dX8_isNamed_132 hQ
          · rw [if_neg c] at h
            refine q_iload 4 rfl dX8_isNamed_124 ?_
            refine q_bipush (v := (57 : Int32)) (by decide) dX8_isNamed_126 ?_
            refine q_icmp_le 133 (by decide) dX8_isNamed_128 (fun c => ?_) (fun c => ?_)
            · rw [if_pos c] at h
              refine q_iinc (v := (x + (1 : Int32))) 3 [(4, .int (x + (1 : Int32))), (6, .int (q_b v2)), (0, .ref 2), (2, .int y2), (5, .int (S.2.1 3 x.toNatClampNeg))] (by decide) rfl (congrArg (fun t => x + t) (by decide)) rfl dX8_isNamed_133 ?_
              refine q_goto 55 (by decide) dX8_isNamed_136 ?_
              refine q_sub [2, 3, 0] rfl ?_
              cases h
              exact hQ
            · rw [if_neg c] at h
              refine q_iconst (v := (0 : Int32)) (by decide) dX8_isNamed_131 ?_
              cases h
              exact q_iret rfl (by decide) dX8_isNamed_132 hQ
    replace h := hv
    refine q_icmp_lt 84 (by decide) dX8_isNamed_74 (fun c => ?_) (fun c => ?_)
    · rw [if_pos c] at h
      refine q_iload 0 rfl dX8_isNamed_84 ?_
      refine q_bipush (v := (65 : Int32)) (by decide) dX8_isNamed_86 ?_
      refine q_icmp_lt 102 (by decide) dX8_isNamed_88 (fun c => ?_) (fun c => ?_)
      · rw [if_pos c] at h
        refine q_iconst (v := (0 : Int32)) (by decide) dX8_isNamed_102 ?_
        obtain rfl := Option.some.inj h
        refine q_sub [1, 2, 3, 0] rfl ?_
        exact K1
      · rw [if_neg c] at h
        refine q_iload 0 rfl dX8_isNamed_91 ?_
        refine q_bipush (v := (90 : Int32)) (by decide) dX8_isNamed_93 ?_
        refine q_icmp_gt 102 (by decide) dX8_isNamed_95 (fun c => ?_) (fun c => ?_)
        · rw [if_pos c] at h
          refine q_iconst (v := (0 : Int32)) (by decide) dX8_isNamed_102 ?_
          obtain rfl := Option.some.inj h
          refine q_sub [1, 2, 3, 0] rfl ?_
          exact K1
        · rw [if_neg c] at h
          refine q_iconst (v := (1 : Int32)) (by decide) dX8_isNamed_98 ?_
          refine q_goto 103 (by decide) dX8_isNamed_99 ?_
          obtain rfl := Option.some.inj h
          refine q_sub [1, 2, 3, 0] rfl ?_
          exact K1
    · rw [if_neg c] at h
      refine q_iload 0 rfl dX8_isNamed_77 ?_
      refine q_bipush (v := (122 : Int32)) (by decide) dX8_isNamed_79 ?_
      refine q_icmp_le 98 (by decide) dX8_isNamed_81 (fun c => ?_) (fun c => ?_)
      · rw [if_pos c] at h
        refine q_iconst (v := (1 : Int32)) (by decide) dX8_isNamed_98 ?_
        refine q_goto 103 (by decide) dX8_isNamed_99 ?_
        obtain rfl := Option.some.inj h
        refine q_sub [1, 2, 3, 0] rfl ?_
        exact K1
      · rw [if_neg c] at h
        refine q_iload 0 rfl dX8_isNamed_84 ?_
        refine q_bipush (v := (65 : Int32)) (by decide) dX8_isNamed_86 ?_
        refine q_icmp_lt 102 (by decide) dX8_isNamed_88 (fun c => ?_) (fun c => ?_)
        · rw [if_pos c] at h
          refine q_iconst (v := (0 : Int32)) (by decide) dX8_isNamed_102 ?_
          obtain rfl := Option.some.inj h
          refine q_sub [1, 2, 3, 0] rfl ?_
          exact K1
        · rw [if_neg c] at h
          refine q_iload 0 rfl dX8_isNamed_91 ?_
          refine q_bipush (v := (90 : Int32)) (by decide) dX8_isNamed_93 ?_
          refine q_icmp_gt 102 (by decide) dX8_isNamed_95 (fun c => ?_) (fun c => ?_)
          · rw [if_pos c] at h
            refine q_iconst (v := (0 : Int32)) (by decide) dX8_isNamed_102 ?_
            obtain rfl := Option.some.inj h
            refine q_sub [1, 2, 3, 0] rfl ?_
            exact K1
          · rw [if_neg c] at h
            refine q_iconst (v := (1 : Int32)) (by decide) dX8_isNamed_98 ?_
            refine q_goto 103 (by decide) dX8_isNamed_99 ?_
            obtain rfl := Option.some.inj h
            refine q_sub [1, 2, 3, 0] rfl ?_
            exact K1
theorem lX8_isNamed_55 {S : QS} {g : QG} {Q : Option Value → QS → Prop}  {y2 : Int32} {r : Bool} (w : q_Wire S) (hQ : Q (some (.int (q_b r))) S) : ∀ (c : Nat) (x : Int32), q_it (tX8_isNamed_55 S y2) c x = some r → q_L g mX8_isNamed 0 0 0 Q 0 0 55 [(0, .ref 2), (2, .int y2), (4, .int x)] [] S := by
  intro c
  induction c with
  | zero => intro x  h; cases h
  | succ c ih =>
    intro x  h
    simp only [q_it] at h
    cases hz : tX8_isNamed_55 S y2 x with
    | none => rw [hz] at h; cases h
    | some z =>
      rw [hz] at h
      refine sX8_isNamed_55 w hz ?_
      rcases z with z | y
      · cases h; exact hQ
      · exact ih y  h
theorem kX8_isNamed_55 {S : QS} {g : QG} {Q : Option Value → QS → Prop}  {y2 : Int32} {y4 : Int32} {r : Bool} (w : q_Wire S) (h : fX8_isNamed_55 S y2 y4 = some r) (hQ : Q (some (.int (q_b r))) S) : q_L g mX8_isNamed 0 0 0 Q 0 0 55 [(0, .ref 2), (2, .int y2), (4, .int y4)] [] S := by
  obtain ⟨c, hc⟩ := q_run_it h
  exact lX8_isNamed_55 w hQ c y4  hc
set_option maxRecDepth 20000 in
theorem kX8_isNamed {S : QS} {g : QG} {Q : Option Value → QS → Prop}  {x1 : Int32} {x2 : Int32} {x3 : Int32} {r : Bool} (w : q_Wire S) (h : fX8_isNamed S x1 x2 x3 = some r) (hQ : Q (some (.int (q_b r))) S) : q_M g mX8_isNamed 0 0 0 [.ref 2, .int x1, .int x2, .int x3] S Q := by
  unfold fX8_isNamed at h
  show q_L g mX8_isNamed 0 0 0 Q 0 0 0 [(0, .ref 2), (1, .int x1), (2, .int x2), (3, .int x3)] [] S
  refine q_iload_n 1 rfl rfl dX8_isNamed_0 ?_
  refine q_if_lt 25 (by decide) dX8_isNamed_1 (fun c => ?_) (fun c => ?_)
  · rw [if_pos c] at h
    refine q_iconst (v := (0 : Int32)) (by decide) dX8_isNamed_25 ?_
    obtain rfl := Option.some.inj h
    exact q_iret rfl (by decide) dX8_isNamed_26 hQ
  · rw [if_neg c] at h
    refine q_iload_n 2 rfl rfl dX8_isNamed_4 ?_
    refine q_aload_n 0 rfl rfl dX8_isNamed_5 ?_
    refine q_getI (q_sh2 w) (by decide) (by decide) rfl lfX8_25 dX8_isNamed_6 ?_
    refine q_icmp_gt 25 (by decide) dX8_isNamed_9 (fun c => ?_) (fun c => ?_)
    · rw [if_pos c] at h
      refine q_iconst (v := (0 : Int32)) (by decide) dX8_isNamed_25 ?_
      obtain rfl := Option.some.inj h
      exact q_iret rfl (by decide) dX8_isNamed_26 hQ
    · rw [if_neg c] at h
      refine q_iload_n 1 rfl rfl dX8_isNamed_12 ?_
      refine q_iload_n 2 rfl rfl dX8_isNamed_13 ?_
      refine q_icmp_ge 25 (by decide) dX8_isNamed_14 (fun c => ?_) (fun c => ?_)
      · rw [if_pos c] at h
        refine q_iconst (v := (0 : Int32)) (by decide) dX8_isNamed_25 ?_
        obtain rfl := Option.some.inj h
        exact q_iret rfl (by decide) dX8_isNamed_26 hQ
      · rw [if_neg c] at h
        refine q_iload_n 2 rfl rfl dX8_isNamed_17 ?_
        refine q_iload_n 1 rfl rfl dX8_isNamed_18 ?_
        refine q_isub dX8_isNamed_19 ?_
        refine q_bipush (v := (24 : Int32)) (by decide) dX8_isNamed_20 ?_
        refine q_icmp_le 27 (by decide) dX8_isNamed_22 (fun c => ?_) (fun c => ?_)
        · rw [if_pos c] at h
          refine q_aload_n 0 rfl rfl dX8_isNamed_27 ?_
          refine q_getR (q_sh2 w) (by decide) (by decide) rfl lfX8_9 dX8_isNamed_28 (r := 3) (q_wr2_0 w) ?_
          refine q_iload_n 1 rfl rfl dX8_isNamed_31 ?_
          obtain ⟨hg3, h⟩ := q_guard h
          refine q_bald (q_sh3 w) (q_inb_in hg3) dX8_isNamed_32 ?_
          refine q_iload_n 3 rfl rfl dX8_isNamed_33 ?_
          refine q_icmp_lt 50 (by decide) dX8_isNamed_34 (fun c => ?_) (fun c => ?_)
          · rw [if_pos c] at h
            refine q_iconst (v := (0 : Int32)) (by decide) dX8_isNamed_50 ?_
            obtain rfl := Option.some.inj h
            exact q_iret rfl (by decide) dX8_isNamed_51 hQ
          · rw [if_neg c] at h
            refine q_aload_n 0 rfl rfl dX8_isNamed_37 ?_
            refine q_getR (q_sh2 w) (by decide) (by decide) rfl lfX8_9 dX8_isNamed_38 (r := 3) (q_wr2_0 w) ?_
            refine q_iload_n 1 rfl rfl dX8_isNamed_41 ?_
            obtain ⟨hg4, h⟩ := q_guard h
            refine q_bald (q_sh3 w) (q_inb_in hg4) dX8_isNamed_42 ?_
            refine q_iload_n 3 rfl rfl dX8_isNamed_43 ?_
            refine q_bipush (v := (25 : Int32)) (by decide) dX8_isNamed_44 ?_
            refine q_iadd dX8_isNamed_46 ?_
            refine q_icmp_le 52 (by decide) dX8_isNamed_47 (fun c => ?_) (fun c => ?_)
            · rw [if_pos c] at h
              refine q_iload_n 1 rfl rfl dX8_isNamed_52 ?_
              refine q_istore [(4, .int x1), (0, .ref 2), (1, .int x1), (2, .int x2), (3, .int x3)] (by decide) rfl dX8_isNamed_53 ?_
              refine q_sub [1, 3, 0] rfl ?_
              exact kX8_isNamed_55 w h hQ
            · rw [if_neg c] at h
              refine q_iconst (v := (0 : Int32)) (by decide) dX8_isNamed_50 ?_
              obtain rfl := Option.some.inj h
              exact q_iret rfl (by decide) dX8_isNamed_51 hQ
        · rw [if_neg c] at h
          refine q_iconst (v := (0 : Int32)) (by decide) dX8_isNamed_25 ?_
          obtain rfl := Option.some.inj h
          exact q_iret rfl (by decide) dX8_isNamed_26 hQ
set_option maxRecDepth 20000 in
theorem kX8_isName {S : QS} {g : QG} {Q : Option Value → QS → Prop}  {x1 : Int32} {r : Bool} (w : q_Wire S) (h : fX8_isName S x1 = some r) (hQ : Q (some (.int (q_b r))) S) : q_M g mX8_isName 1 0 0 [.ref 2, .int x1] S Q := by
  unfold fX8_isName at h
  show q_L g mX8_isName 1 0 0 Q 0 0 0 [(0, .ref 2), (1, .int x1)] [] S
  refine q_iload_n 1 rfl rfl dX8_isName_0 ?_
  refine q_if_lt 37 (by decide) dX8_isName_1 (fun c => ?_) (fun c => ?_)
  · rw [if_pos c] at h
    refine q_iconst (v := (0 : Int32)) (by decide) dX8_isName_37 ?_
    obtain rfl := Option.some.inj h
    exact q_iret rfl (by decide) dX8_isName_38 hQ
  · rw [if_neg c] at h
    refine q_iload_n 1 rfl rfl dX8_isName_4 ?_
    refine q_aload_n 0 rfl rfl dX8_isName_5 ?_
    refine q_getI (q_sh2 w) (by decide) (by decide) rfl lfX8_29 dX8_isName_6 ?_
    refine q_icmp_ge 37 (by decide) dX8_isName_9 (fun c => ?_) (fun c => ?_)
    · rw [if_pos c] at h
      refine q_iconst (v := (0 : Int32)) (by decide) dX8_isName_37 ?_
      obtain rfl := Option.some.inj h
      exact q_iret rfl (by decide) dX8_isName_38 hQ
    · rw [if_neg c] at h
      refine q_aload_n 0 rfl rfl dX8_isName_12 ?_
      refine q_aload_n 0 rfl rfl dX8_isName_13 ?_
      refine q_getR (q_sh2 w) (by decide) (by decide) rfl lfX8_15 dX8_isName_14 (r := 4) (q_wr2_2 w) ?_
      refine q_iload_n 1 rfl rfl dX8_isName_17 ?_
      obtain ⟨hg1, h⟩ := q_guard h
      refine q_iald (q_sh4 w) (q_inb_in hg1) dX8_isName_18 ?_
      refine q_aload_n 0 rfl rfl dX8_isName_19 ?_
      refine q_getR (q_sh2 w) (by decide) (by decide) rfl lfX8_19 dX8_isName_20 (r := 5) (q_wr2_3 w) ?_
      refine q_iload_n 1 rfl rfl dX8_isName_23 ?_
      obtain ⟨hg2, h⟩ := q_guard h
      refine q_iald (q_sh5 w) (q_inb_in hg2) dX8_isName_24 ?_
      refine q_bipush (v := (97 : Int32)) (by decide) dX8_isName_25 ?_
      obtain ⟨r3, e4, h⟩ := q_bind h
      refine q_callV (ci := 8) (d := 0) (Mc := mX8_isNamed) (kc := 0) (nc := 0) [.int (S.2.1 4 x1.toNatClampNeg), .int (S.2.1 5 x1.toNatClampNeg), .int (97 : Int32)] okX8_isNamed (q_sh2 w) (by decide) rfl lmX8_45 inX8_isNamed seX8_isNamed rfl (Nat.le_of_ble_eq_true rfl) (Nat.le_of_ble_eq_true rfl) (Nat.le_refl _) (Nat.le_refl _) dX8_isName_27 (q_L.deep (by decide) (kX8_isNamed (Q := fun r S' => r = some (.int (q_b r3)) ∧ S' = S) w e4 ⟨rfl, rfl⟩)) (q_kI ?_)
      refine q_if_eq 37 (by decide) dX8_isName_30 (fun c => ?_) (fun c => ?_)
      · have c := q_b_0.mp c; rw [q_if0 c] at h
        refine q_iconst (v := (0 : Int32)) (by decide) dX8_isName_37 ?_
        obtain rfl := Option.some.inj h
        exact q_iret rfl (by decide) dX8_isName_38 hQ
      · have c := q_b_n.mp c; rw [q_if1 c] at h
        refine q_iconst (v := (1 : Int32)) (by decide) dX8_isName_33 ?_
        refine q_goto 38 (by decide) dX8_isName_34 ?_
        obtain rfl := Option.some.inj h
        exact q_iret rfl (by decide) dX8_isName_38 hQ
