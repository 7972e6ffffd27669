set_option maxRecDepth 20000 in
theorem kX9_begin {S : QS} {g : QG} {Q : Option Value → QS → Prop} {p : Nat}  {r : QS} (w : q_Wire S) (hp : q_pok p) (h : fX9_begin S p = some r) (hQ : Q none r) : q_M g mX9_begin 0 0 0 [.ref 84, .ref p] S Q := by
  unfold fX9_begin at h
  show q_L g mX9_begin 0 0 0 Q 0 0 0 [(0, .ref 84), (1, .ref p)] [] S
  refine q_aload_n 0 rfl rfl dX9_begin_0 ?_
  refine q_aload_n 1 rfl rfl dX9_begin_1 ?_
  refine q_putR (q_sh84 w) (by decide) (by decide) rfl rfl lfX9_25 dX9_begin_2 ?_
  obtain ⟨S1, e2, h⟩ := q_bindS h
  refine q_st e2 ?_
  have w4 : q_Wire S1 := e2 ▸ q_Wire.sR w (by decide)
  refine q_aload_n 0 rfl rfl dX9_begin_5 ?_
  refine q_aload_n 1 rfl rfl dX9_begin_6 ?_
  refine q_getRN (q_shP0 w4 hp) (by decide) (by decide) rfl lfX9_29 dX9_begin_7 (r := (p + 1)) (q_wrP0_0 w4 hp) ?_
  refine q_putR (q_sh84 w4) (by decide) (by decide) rfl rfl lfX9_35 dX9_begin_10 ?_
  obtain ⟨S5, e6, h⟩ := q_bindS h
  refine q_st e6 ?_
  have w8 : q_Wire S5 := e6 ▸ q_Wire.sR w4 (by decide)
  refine q_aload_n 0 rfl rfl dX9_begin_13 ?_
  refine q_aload_n 1 rfl rfl dX9_begin_14 ?_
  refine q_getRN (q_shP0 w8 hp) (by decide) (by decide) rfl lfX9_36 dX9_begin_15 (r := (p + 10)) (q_wrP0_1 w8 hp) ?_
  refine q_putR (q_sh84 w8) (by decide) (by decide) rfl rfl lfX9_40 dX9_begin_18 ?_
  obtain ⟨S9, e10, h⟩ := q_bindS h
  refine q_st e10 ?_
  have w12 : q_Wire S9 := e10 ▸ q_Wire.sR w8 (by decide)
  obtain rfl := Option.some.inj h
  exact q_vret rfl dX9_begin_21 hQ
set_option maxRecDepth 20000 in
theorem sX9_arrive_67 {g : QG} {Q : Option Value → QS → Prop} {p : Nat} {y1 : Int32} {y2 : Int32} {y3 : Int32} {x : Int32 × Int32 × QS} {z : (QS) ⊕ (Int32 × Int32 × QS)} (w : q_Wire x.2.2) (hp : q_pok p) (aF : q_aF x.2.2 p) (h : tX9_arrive_67 p y1 y2 y3 x = some z) (hQ : (Sum.elim (fun r0 : QS => Q none r0) (fun y : Int32 × Int32 × QS => q_L g mX9_arrive 3 0 0 Q 0 0 67 [(0, .ref 84), (1, .int y1), (2, .int y2), (3, .int y3), (4, .int y.1), (5, .int y.2.1)] [] y.2.2) z)) : q_L g mX9_arrive 3 0 0 Q 0 0 67 [(0, .ref 84), (1, .int y1), (2, .int y2), (3, .int y3), (4, .int x.1), (5, .int x.2.1)] [] x.2.2 := by
  unfold tX9_arrive_67 at h
  refine q_iload 5 rfl dX9_arrive_67 ?_
  refine q_iload_n 3 rfl rfl dX9_arrive_69 ?_
  refine q_icmp_ge 140 (by decide) dX9_arrive_70 (fun c => ?_) (fun c => ?_)
  · rw [if_pos c] at h
    refine q_iload 4 rfl dX9_arrive_140 ?_
    refine q_if_eq 157 (by decide) dX9_arrive_142 (fun c => ?_) (fun c => ?_)
    · rw [if_pos c] at h
      cases h
      exact q_vret rfl dX9_arrive_157 hQ
    · rw [if_neg c] at h
      refine q_aload_n 0 rfl rfl dX9_arrive_145 ?_
      refine q_getR (q_sh84 w) (by decide) (by decide) rfl lfX9_19 dX9_arrive_146 (r := 87) (q_wr84_5 w) ?_
      refine q_iload_n 1 rfl rfl dX9_arrive_149 ?_
      refine q_iconst (v := (1 : Int32)) (by decide) dX9_arrive_150 ?_
      obtain ⟨hg1, h⟩ := q_guard h
      refine q_zast (q_sh87 w) (q_inb_in hg1) dX9_arrive_151 ?_
      obtain ⟨S2, e3, h⟩ := q_bindS h
      refine q_st e3 ?_
      have fx4 : q_Fx x.2.2 S2 := e3 ▸ q_Fx.sI (q_Fx.rf x.2.2)
      refine q_aload_n 0 rfl rfl dX9_arrive_152 ?_
      refine q_iconst (v := (1 : Int32)) (by decide) dX9_arrive_153 ?_
      refine q_putI (q_sh84 (w.fx fx4)) (by decide) (by decide) rfl rfl ⟨rfl, rfl⟩ lfX9_53 dX9_arrive_154 ?_
      obtain ⟨S5, e6, h⟩ := q_bindS h
      refine q_st e6 ?_
      have fx7 : q_Fx x.2.2 S5 := e6 ▸ q_Fx.sI (fx4)
      cases h
      exact q_vret rfl dX9_arrive_157 hQ
  · rw [if_neg c] at h
    refine q_aload_n 0 rfl rfl dX9_arrive_73 ?_
    refine q_getR (q_sh84 w) (by decide) (by decide) rfl lfX9_35 dX9_arrive_74 (r := (p + 1)) (aF).2.1 ?_
    refine q_aload_n 0 rfl rfl dX9_arrive_77 ?_
    refine q_getR (q_sh84 w) (by decide) (by decide) rfl lfX9_9 dX9_arrive_78 (r := 85) (q_wr84_3 w) ?_
    refine q_iload_n 2 rfl rfl dX9_arrive_81 ?_
    refine q_iload 5 rfl dX9_arrive_82 ?_
    refine q_iadd dX9_arrive_84 ?_
    obtain ⟨hg8, h⟩ := q_guard h
    refine q_bald (q_sh85 w) (q_inb_in hg8) dX9_arrive_85 ?_
    refine q_aload_n 0 rfl rfl dX9_arrive_86 ?_
    refine q_getR (q_sh84 w) (by decide) (by decide) rfl lfX9_22 dX9_arrive_87 (r := 88) (q_wr84_7 w) ?_
    refine q_iload 5 rfl dX9_arrive_90 ?_
    obtain ⟨hg9, h⟩ := q_guard h
    refine q_bald (q_sh88 w) (q_inb_in hg9) dX9_arrive_92 ?_
    obtain ⟨r10, e11, h⟩ := q_bind h
    refine q_callV (ci := 0) (d := 2) (Mc := mX0_join) (kc := 0) (nc := 0) [.int (x.2.2.2.1 85 (y2 + x.2.1).toNatClampNeg), .int (x.2.2.2.1 88 x.2.1.toNatClampNeg)] okX0_join (q_shP1 w hp) (by decide) rfl lmX9_141 inX0_join seX0_join rfl (Nat.le_of_ble_eq_true rfl) (Nat.le_of_ble_eq_true rfl) (Nat.le_refl _) (Nat.le_refl _) dX9_arrive_93 (q_L.deep (by decide) (kX0_join (Q := fun r S' => r = some (.int r10) ∧ S' = x.2.2) w hp e11 ⟨rfl, rfl⟩)) (q_kI ?_)
    refine q_i2b dX9_arrive_96 ?_
    refine q_istore [(6, .int r10.toInt8.toInt32), (0, .ref 84), (1, .int y1), (2, .int y2), (3, .int y3), (4, .int x.1), (5, .int x.2.1)] (by decide) rfl dX9_arrive_97 ?_
    refine q_iload 5 rfl dX9_arrive_99 ?_
    refine q_iload 0 rfl dX9_arrive_101 ?_
    refine q_aload_n 1 rfl rfl dX9_arrive_103 ?_
    refine q_getR (q_sh84 w) (by decide) (by decide) rfl lfX9_9 dX9_arrive_104 (r := 85) (q_wr84_3 w) ?_
    refine q_iload_n 3 rfl rfl dX9_arrive_107 ?_
    refine q_iload 6 rfl dX9_arrive_108 ?_
    refine q_iadd dX9_arrive_110 ?_
    obtain ⟨hg12, h⟩ := q_guard h
    refine q_bald (q_sh85 w) (q_inb_in hg12) dX9_arrive_111 ?_
    obtain ⟨v13, hv, h⟩ := q_bind h
    have K1 : q_L g mX9_arrive 3 0 0 Q 0 0 120 [(0, .ref 84), (1, .int y1), (2, .int y2), (3, .int y3), (5, .int x.2.1), (6, .int r10.toInt8.toInt32)] [.int (q_b v13), .int x.1] x.2.2 := by
      refine q_ior dX9_arrive_120 ?_
      refine q_istore [(4, .int (x.1 ||| (q_b v13))), (0, .ref 84), (1, .int y1), (2, .int y2), (3, .int y3), (5, .int x.2.1), (6, .int r10.toInt8.toInt32)] (by decide) rfl dX9_arrive_121 ?_
      refine q_aload_n 1 rfl rfl dX9_arrive_123 ?_
      refine q_getR (q_sh84 w) (by decide) (by decide) rfl lfX9_9 dX9_arrive_124 (r := 85) (q_wr84_3 w) ?_
      refine q_iload_n 3 rfl rfl dX9_arrive_127 ?_
      refine q_iload 5 rfl dX9_arrive_128 ?_
      refine q_iadd dX9_arrive_130 ?_
      refine q_iload 6 rfl dX9_arrive_131 ?_
      obtain ⟨hg14, h⟩ := q_guard h
      refine q_bast (q_sh85 w) (q_inb_in hg14) dX9_arrive_133 ?_
      obtain ⟨S15, e16, h⟩ := q_bindS h
      refine q_st e16 ?_
      have fx17 : q_Fx x.2.2 S15 := e16 ▸ q_Fx.sI (q_Fx.rf x.2.2)
      refine q_iinc (v := (x.2.1 + (1 : Int32))) 5 [(5, .int (x.2.1 + (1 : Int32))), (4, .int (x.1 ||| (q_b v13))), (0, .ref 84), (1, .int y1), (2, .int y2), (3, .int y3), (6, .int r10.toInt8.toInt32)] (by decide) rfl (congrArg (fun t => x.2.1 + t) (by decide)) rfl dX9_arrive_134 ?_
      refine q_goto 67 (by decide) dX9_arrive_137 ?_
      refine q_sub [2, 3, 4, 5, 1, 0] rfl ?_
      cases h
      exact hQ
    replace h := hv
    refine q_icmp_eq 119 (by decide) dX9_arrive_112 (fun c => ?_) (fun c => ?_)
    · rw [if_pos c] at h
      refine q_iconst (v := (0 : Int32)) (by decide) dX9_arrive_119 ?_
      obtain rfl := Option.some.inj h
      refine q_sub [1, 2, 3, 4, 6, 0] rfl ?_
      exact K1
    · rw [if_neg c] at h
      refine q_iconst (v := (1 : Int32)) (by decide) dX9_arrive_115 ?_
      refine q_goto 120 (by decide) dX9_arrive_116 ?_
      obtain rfl := Option.some.inj h
      refine q_sub [1, 2, 3, 4, 6, 0] rfl ?_
      exact K1
theorem lX9_arrive_67 {g : QG} {Q : Option Value → QS → Prop} {p : Nat} {y1 : Int32} {y2 : Int32} {y3 : Int32} {r : QS} (hp : q_pok p) (hQ : Q none r) : ∀ (c : Nat) (x : Int32 × Int32 × QS), q_Wire x.2.2 → q_aF x.2.2 p → q_it (tX9_arrive_67 p y1 y2 y3) c x = some r → q_L g mX9_arrive 3 0 0 Q 0 0 67 [(0, .ref 84), (1, .int y1), (2, .int y2), (3, .int y3), (4, .int x.1), (5, .int x.2.1)] [] x.2.2 := by
  intro c
  induction c with
  | zero => intro x w aF h; cases h
  | succ c ih =>
    intro x w aF h
    simp only [q_it] at h
    cases hz : tX9_arrive_67 p y1 y2 y3 x with
    | none => rw [hz] at h; cases h
    | some z =>
      rw [hz] at h
      refine sX9_arrive_67 w hp aF hz ?_
      rcases z with z | y
      · cases h; exact hQ
      · have fz := fxtX9_arrive_67 hz; exact ih y (w.fx fz) (aF.fx fz) h
theorem kX9_arrive_67 {S : QS} {g : QG} {Q : Option Value → QS → Prop} {p : Nat} {y1 : Int32} {y2 : Int32} {y3 : Int32} {y4 : Int32} {y5 : Int32} {r : QS} (w : q_Wire S) (hp : q_pok p) (aF : q_aF S p) (h : fX9_arrive_67 S p y1 y2 y3 y4 y5 = some r) (hQ : Q none r) : q_L g mX9_arrive 3 0 0 Q 0 0 67 [(0, .ref 84), (1, .int y1), (2, .int y2), (3, .int y3), (4, .int y4), (5, .int y5)] [] S := by
  obtain ⟨c, hc⟩ := q_run_it h
  exact lX9_arrive_67 hp hQ c (y4, y5, S) w aF hc
set_option maxRecDepth 20000 in
theorem kX9_arrive {S : QS} {g : QG} {Q : Option Value → QS → Prop} {p : Nat} {x1 : Int32} {r : QS} (w : q_Wire S) (hp : q_pok p) (aF : q_aF S p) (h : fX9_arrive S p x1 = some r) (hQ : Q none r) : q_M g mX9_arrive 3 0 0 [.ref 84, .int x1] S Q := by
  unfold fX9_arrive at h
  show q_L g mX9_arrive 3 0 0 Q 0 0 0 [(0, .ref 84), (1, .int x1)] [] S
  refine q_iload_n 1 rfl rfl dX9_arrive_0 ?_
  refine q_bipush (v := (20 : Int32)) (by decide) dX9_arrive_1 ?_
  refine q_imul dX9_arrive_3 ?_
  refine q_istore_n [(2, .int (x1 * (20 : Int32))), (0, .ref 84), (1, .int x1)] rfl (by decide) rfl dX9_arrive_4 ?_
  refine q_bipush (v := (12 : Int32)) (by decide) dX9_arrive_5 ?_
  refine q_aload_n 1 rfl rfl dX9_arrive_7 ?_
  refine q_getR (q_sh84 w) (by decide) (by decide) rfl lfX9_40 dX9_arrive_8 (r := (p + 10)) (aF).2.2 ?_
  refine q_getRN (q_shP10 w hp) (by decide) (by decide) rfl lfX9_74 dX9_arrive_11 (r := (p + 17)) (q_wrP10_7 w hp) ?_
  refine q_iload_n 2 rfl rfl dX9_arrive_14 ?_
  obtain ⟨hg18, h⟩ := q_guard h
  refine q_iald (q_shP17 w hp) (q_inb_in hg18) dX9_arrive_15 ?_
  refine q_iadd dX9_arrive_16 ?_
  refine q_istore_n [(3, .int ((12 : Int32) + (S.2.1 (p + 17) x1.toNatClampNeg))), (2, .int (x1 * (20 : Int32))), (0, .ref 84), (1, .int x1)] rfl (by decide) rfl dX9_arrive_17 ?_
  refine q_aload_n 2 rfl rfl dX9_arrive_18 ?_
  refine q_getR (q_sh84 w) (by decide) (by decide) rfl lfX9_15 dX9_arrive_19 (r := 86) (q_wr84_4 w) ?_
  refine q_iload_n 3 rfl rfl dX9_arrive_22 ?_
  obtain ⟨hg19, h⟩ := q_guard h
  refine q_zald (q_sh86 w) (q_inb_in hg19) dX9_arrive_23 ?_
  obtain ⟨v20, hv, h⟩ := q_bind h
  have K2 : q_L g mX9_arrive 3 0 0 Q 0 0 32 [(0, .ref 84), (1, .int x1), (2, .int (x1 * (20 : Int32))), (3, .int ((12 : Int32) + (S.2.1 (p + 17) x1.toNatClampNeg)))] [.int (q_b v20)] S := by
    refine q_istore [(4, .int (q_b v20)), (0, .ref 84), (1, .int x1), (2, .int (x1 * (20 : Int32))), (3, .int ((12 : Int32) + (S.2.1 (p + 17) x1.toNatClampNeg)))] (by decide) rfl dX9_arrive_32 ?_
    refine q_aload_n 1 rfl rfl dX9_arrive_34 ?_
    refine q_getR (q_sh84 w) (by decide) (by decide) rfl lfX9_15 dX9_arrive_35 (r := 86) (q_wr84_4 w) ?_
    refine q_iload_n 2 rfl rfl dX9_arrive_38 ?_
    obtain ⟨hg21, h⟩ := q_guard h
    refine q_zald (q_sh86 w) (q_inb_in hg21) dX9_arrive_39 ?_
    refine q_if_ne 64 (by decide) dX9_arrive_40 (fun c => ?_) (fun c => ?_)
    · rw [if_neg c] at h
      refine q_iconst (v := (0 : Int32)) (by decide) dX9_arrive_64 ?_
      refine q_istore [(5, .int (0 : Int32)), (4, .int (q_b v20)), (0, .ref 84), (1, .int x1), (2, .int (x1 * (20 : Int32))), (3, .int ((12 : Int32) + (S.2.1 (p + 17) x1.toNatClampNeg)))] (by decide) rfl dX9_arrive_65 ?_
      refine q_sub [2, 3, 4, 5, 1, 0] rfl ?_
      exact kX9_arrive_67 w hp (aF) h hQ
    · rw [if_pos c] at h
      refine q_aload_n 1 rfl rfl dX9_arrive_43 ?_
      refine q_getR (q_sh84 w) (by decide) (by decide) rfl lfX9_22 dX9_arrive_44 (r := 88) (q_wr84_7 w) ?_
      refine q_iconst (v := (0 : Int32)) (by decide) dX9_arrive_47 ?_
      refine q_aload_n 1 rfl rfl dX9_arrive_48 ?_
      refine q_getR (q_sh84 w) (by decide) (by decide) rfl lfX9_9 dX9_arrive_49 (r := 85) (q_wr84_3 w) ?_
      refine q_iload_n 3 rfl rfl dX9_arrive_52 ?_
      refine q_iload_n 4 rfl rfl dX9_arrive_53 ?_
      obtain ⟨hg22, h⟩ := q_guard h
      obtain ⟨k1, k2, k3, k4, k5, k6⟩ := q_cpok_of hg22
      refine q_copy (by decide) (by decide) (q_sh88 w) (q_sh85 w) k1 k2 k3 k4 k5 k6 lmX9_96 q_acn q_acs q_aci (Nat.le_of_ble_eq_true rfl) dX9_arrive_54 ?_
      obtain ⟨S23, e24, h⟩ := q_bindS h
      refine q_st e24 ?_
      have fx25 : q_Fx S S23 := e24 ▸ q_Fx.cp (q_Fx.rf S)
      refine q_aload_n 1 rfl rfl dX9_arrive_57 ?_
      refine q_getR (q_sh84 (w.fx fx25)) (by decide) (by decide) rfl lfX9_15 dX9_arrive_58 (r := 86) (q_wr84_4 (w.fx fx25)) ?_
      refine q_iload_n 2 rfl rfl dX9_arrive_61 ?_
      refine q_iconst (v := (1 : Int32)) (by decide) dX9_arrive_62 ?_
      obtain ⟨hg26, h⟩ := q_guard h
      refine q_zast (q_sh86 (w.fx fx25)) (q_inb_in hg26) dX9_arrive_63 ?_
      obtain ⟨S27, e28, h⟩ := q_bindS h
      refine q_st e28 ?_
      have fx29 : q_Fx S S27 := e28 ▸ q_Fx.sI (fx25)
      refine q_iconst (v := (0 : Int32)) (by decide) dX9_arrive_64 ?_
      refine q_istore [(5, .int (0 : Int32)), (4, .int (q_b v20)), (0, .ref 84), (1, .int x1), (2, .int (x1 * (20 : Int32))), (3, .int ((12 : Int32) + (S.2.1 (p + 17) x1.toNatClampNeg)))] (by decide) rfl dX9_arrive_65 ?_
      refine q_sub [2, 3, 4, 5, 1, 0] rfl ?_
      exact kX9_arrive_67 (w.fx fx29) hp (aF.fx fx29) h hQ
  replace h := hv
  refine q_if_ne 31 (by decide) dX9_arrive_24 (fun c => ?_) (fun c => ?_)
  · rw [if_neg c] at h
    refine q_iconst (v := (0 : Int32)) (by decide) dX9_arrive_31 ?_
    obtain rfl := Option.some.inj h
    refine q_sub [2, 3, 1, 0] rfl ?_
    exact K2
  · rw [if_pos c] at h
    refine q_iconst (v := (1 : Int32)) (by decide) dX9_arrive_27 ?_
    refine q_goto 32 (by decide) dX9_arrive_28 ?_
    obtain rfl := Option.some.inj h
    refine q_sub [2, 3, 1, 0] rfl ?_
    exact K2
set_option maxRecDepth 20000 in
theorem sX9_enter_2 {g : QG} {Q : Option Value → QS → Prop} {p : Nat} {y1 : Int32} {x : Int32 × QS} {z : (QS) ⊕ (Int32 × QS)} (w : q_Wire x.2) (hp : q_pok p) (aF : q_aF x.2 p) (h : tX9_enter_2 p y1 x = some z) (hQ : (Sum.elim (fun r0 : QS => Q none r0) (fun y : Int32 × QS => q_L g mX9_enter 4 0 0 Q 0 0 2 [(0, .ref 84), (1, .int y1), (2, .int y.1)] [] y.2) z)) : q_L g mX9_enter 4 0 0 Q 0 0 2 [(0, .ref 84), (1, .int y1), (2, .int x.1)] [] x.2 := by
  unfold tX9_enter_2 at h
  refine q_iload_n 2 rfl rfl dX9_enter_2 ?_
  refine q_bipush (v := (12 : Int32)) (by decide) dX9_enter_3 ?_
  refine q_icmp_ge 53 (by decide) dX9_enter_5 (fun c => ?_) (fun c => ?_)
  · rw [if_pos c] at h
    refine q_aload_n 0 rfl rfl dX9_enter_53 ?_
    refine q_aload_n 0 rfl rfl dX9_enter_54 ?_
    refine q_getR (q_sh84 w) (by decide) (by decide) rfl lfX9_25 dX9_enter_55 (r := p) (aF).1 ?_
    refine q_getRN (q_shP0 w hp) (by decide) (by decide) rfl lfX9_41 dX9_enter_58 (r := (p + 29)) (q_wrP0_10 w hp) ?_
    refine q_iload_n 1 rfl rfl dX9_enter_61 ?_
    obtain ⟨hg1, h⟩ := q_guard h
    refine q_iald (q_shP29 w hp) (q_inb_in hg1) dX9_enter_62 ?_
    obtain ⟨r2, e3, h⟩ := q_bind h
    refine q_callV (ci := 9) (d := 3) (Mc := mX9_arrive) (kc := 0) (nc := 0) [.int (x.2.2.1 (p + 29) y1.toNatClampNeg)] okX9_arrive (q_sh84 w) (by decide) rfl lmX9_71 inX9_arrive seX9_arrive rfl (Nat.le_of_ble_eq_true rfl) (Nat.le_of_ble_eq_true rfl) (Nat.le_refl _) (Nat.le_refl _) dX9_enter_63 (q_L.deep (by decide) (kX9_arrive (Q := fun r S' => r = none ∧ S' = r2) w hp (aF) e3 ⟨rfl, rfl⟩)) (q_kV ?_)
    have fx4 : q_Fx x.2 r2 := q_Fx.tr (q_Fx.rf x.2) (fxX9_arrive e3)
    cases h
    exact q_vret rfl dX9_enter_66 hQ
  · rw [if_neg c] at h
    refine q_aload_n 0 rfl rfl dX9_enter_8 ?_
    refine q_getR (q_sh84 w) (by decide) (by decide) rfl lfX9_22 dX9_enter_9 (r := 88) (q_wr84_7 w) ?_
    refine q_iload_n 2 rfl rfl dX9_enter_12 ?_
    refine q_iload_n 2 rfl rfl dX9_enter_13 ?_
    refine q_aload_n 0 rfl rfl dX9_enter_14 ?_
    refine q_getR (q_sh84 w) (by decide) (by decide) rfl lfX9_25 dX9_enter_15 (r := p) (aF).1 ?_
    refine q_getRN (q_shP0 w hp) (by decide) (by decide) rfl lfX9_65 dX9_enter_18 (r := (p + 25)) (q_wrP0_6 w hp) ?_
    refine q_iload_n 1 rfl rfl dX9_enter_21 ?_
    obtain ⟨hg5, h⟩ := q_guard h
    refine q_iald (q_shP25 w hp) (q_inb_in hg5) dX9_enter_22 ?_
    obtain ⟨v7, hv, h⟩ := q_bind h
    have K1 : q_L g mX9_enter 4 0 0 Q 0 0 45 [(0, .ref 84), (1, .int y1), (2, .int x.1)] [.int v7, .int x.1, .ref 88] x.2 := by
      refine q_i2b dX9_enter_45 ?_
      obtain ⟨hg8, h⟩ := q_guard h
      refine q_bast (q_sh88 w) (q_inb_in hg8) dX9_enter_46 ?_
      obtain ⟨S9, e10, h⟩ := q_bindS h
      refine q_st e10 ?_
      have fx11 : q_Fx x.2 S9 := e10 ▸ q_Fx.sI (q_Fx.rf x.2)
      refine q_iinc (v := (x.1 + (1 : Int32))) 2 [(2, .int (x.1 + (1 : Int32))), (0, .ref 84), (1, .int y1)] (by decide) rfl (congrArg (fun t => x.1 + t) (by decide)) rfl dX9_enter_47 ?_
      refine q_goto 2 (by decide) dX9_enter_50 ?_
      refine q_sub [1, 2, 0] rfl ?_
      cases h
      exact hQ
    replace h := hv
    refine q_icmp_ge 43 (by decide) dX9_enter_23 (fun c => ?_) (fun c => ?_)
    · rw [if_pos c] at h
      refine q_bipush (v := (67 : Int32)) (by decide) dX9_enter_43 ?_
      obtain rfl := Option.some.inj h
      refine q_sub [0, 1, 2] rfl ?_
      exact K1
    · rw [if_neg c] at h
      refine q_aload_n 0 rfl rfl dX9_enter_26 ?_
      refine q_getR (q_sh84 w) (by decide) (by decide) rfl lfX9_25 dX9_enter_27 (r := p) (aF).1 ?_
      refine q_getRN (q_shP0 w hp) (by decide) (by decide) rfl lfX9_68 dX9_enter_30 (r := (p + 26)) (q_wrP0_7 w hp) ?_
      refine q_iload_n 1 rfl rfl dX9_enter_33 ?_
      refine q_bipush (v := (12 : Int32)) (by decide) dX9_enter_34 ?_
      refine q_imul dX9_enter_36 ?_
      refine q_iload_n 2 rfl rfl dX9_enter_37 ?_
      refine q_iadd dX9_enter_38 ?_
      obtain ⟨hg6, h⟩ := q_guard h
      refine q_iald (q_shP26 w hp) (q_inb_in hg6) dX9_enter_39 ?_
      refine q_goto 45 (by decide) dX9_enter_40 ?_
      obtain rfl := Option.some.inj h
      refine q_sub [0, 1, 2] rfl ?_
      exact K1
theorem lX9_enter_2 {g : QG} {Q : Option Value → QS → Prop} {p : Nat} {y1 : Int32} {r : QS} (hp : q_pok p) (hQ : Q none r) : ∀ (c : Nat) (x : Int32 × QS), q_Wire x.2 → q_aF x.2 p → q_it (tX9_enter_2 p y1) c x = some r → q_L g mX9_enter 4 0 0 Q 0 0 2 [(0, .ref 84), (1, .int y1), (2, .int x.1)] [] x.2 := by
  intro c
  induction c with
  | zero => intro x w aF h; cases h
  | succ c ih =>
    intro x w aF h
    simp only [q_it] at h
    cases hz : tX9_enter_2 p y1 x with
    | none => rw [hz] at h; cases h
    | some z =>
      rw [hz] at h
      refine sX9_enter_2 w hp aF hz ?_
      rcases z with z | y
      · cases h; exact hQ
      · have fz := fxtX9_enter_2 hz; exact ih y (w.fx fz) (aF.fx fz) h
theorem kX9_enter_2 {S : QS} {g : QG} {Q : Option Value → QS → Prop} {p : Nat} {y1 : Int32} {y2 : Int32} {r : QS} (w : q_Wire S) (hp : q_pok p) (aF : q_aF S p) (h : fX9_enter_2 S p y1 y2 = some r) (hQ : Q none r) : q_L g mX9_enter 4 0 0 Q 0 0 2 [(0, .ref 84), (1, .int y1), (2, .int y2)] [] S := by
  obtain ⟨c, hc⟩ := q_run_it h
  exact lX9_enter_2 hp hQ c (y2, S) w aF hc
set_option maxRecDepth 20000 in
theorem kX9_enter {S : QS} {g : QG} {Q : Option Value → QS → Prop} {p : Nat} {x1 : Int32} {r : QS} (w : q_Wire S) (hp : q_pok p) (aF : q_aF S p) (h : fX9_enter S p x1 = some r) (hQ : Q none r) : q_M g mX9_enter 4 0 0 [.ref 84, .int x1] S Q := by
  unfold fX9_enter at h
  show q_L g mX9_enter 4 0 0 Q 0 0 0 [(0, .ref 84), (1, .int x1)] [] S
  refine q_iconst (v := (0 : Int32)) (by decide) dX9_enter_0 ?_
  refine q_istore_n [(2, .int (0 : Int32)), (0, .ref 84), (1, .int x1)] rfl (by decide) rfl dX9_enter_1 ?_
  refine q_sub [1, 2, 0] rfl ?_
  exact kX9_enter_2 w hp (aF) h hQ
set_option maxRecDepth 20000 in
theorem kX9_swap {S : QS} {g : QG} {Q : Option Value → QS → Prop}  {x1 : Int32} {x2 : Int32} {r : QS} (w : q_Wire S) (h : fX9_swap S x1 x2 = some r) (hQ : Q none r) : q_M g mX9_swap 0 0 0 [.ref 84, .int x1, .int x2] S Q := by
  unfold fX9_swap at h
  show q_L g mX9_swap 0 0 0 Q 0 0 0 [(0, .ref 84), (1, .int x1), (2, .int x2)] [] S
  refine q_aload_n 0 rfl rfl dX9_swap_0 ?_
  refine q_getR (q_sh84 w) (by decide) (by decide) rfl lfX9_22 dX9_swap_1 (r := 88) (q_wr84_7 w) ?_
  refine q_iload_n 1 rfl rfl dX9_swap_4 ?_
  obtain ⟨hg1, h⟩ := q_guard h
  refine q_bald (q_sh88 w) (q_inb_in hg1) dX9_swap_5 ?_
  refine q_istore_n [(3, .int (S.2.1 88 x1.toNatClampNeg)), (0, .ref 84), (1, .int x1), (2, .int x2)] rfl (by decide) rfl dX9_swap_6 ?_
  refine q_aload_n 1 rfl rfl dX9_swap_7 ?_
  refine q_getR (q_sh84 w) (by decide) (by decide) rfl lfX9_22 dX9_swap_8 (r := 88) (q_wr84_7 w) ?_
  refine q_iload_n 2 rfl rfl dX9_swap_11 ?_
  refine q_aload_n 1 rfl rfl dX9_swap_12 ?_
  refine q_getR (q_sh84 w) (by decide) (by decide) rfl lfX9_22 dX9_swap_13 (r := 88) (q_wr84_7 w) ?_
  refine q_iload_n 3 rfl rfl dX9_swap_16 ?_
  obtain ⟨hg2, h⟩ := q_guard h
  refine q_bald (q_sh88 w) (q_inb_in hg2) dX9_swap_17 ?_
  obtain ⟨hg3, h⟩ := q_guard h
  refine q_bast (q_sh88 w) (q_inb_in hg3) dX9_swap_18 ?_
  obtain ⟨S4, e5, h⟩ := q_bindS h
  refine q_st e5 ?_
  have fx6 : q_Fx S S4 := e5 ▸ q_Fx.sI (q_Fx.rf S)
  refine q_aload_n 1 rfl rfl dX9_swap_19 ?_
  refine q_getR (q_sh84 (w.fx fx6)) (by decide) (by decide) rfl lfX9_22 dX9_swap_20 (r := 88) (q_wr84_7 (w.fx fx6)) ?_
  refine q_iload_n 3 rfl rfl dX9_swap_23 ?_
  refine q_iload_n 0 rfl rfl dX9_swap_24 ?_
  obtain ⟨hg7, h⟩ := q_guard h
  refine q_bast (q_sh88 (w.fx fx6)) (q_inb_in hg7) dX9_swap_25 ?_
  obtain ⟨S8, e9, h⟩ := q_bindS h
  refine q_st e9 ?_
  have fx10 : q_Fx S S8 := e9 ▸ q_Fx.sI (fx6)
  obtain rfl := Option.some.inj h
  exact q_vret rfl dX9_swap_26 hQ
set_option maxRecDepth 20000 in
theorem kX9_perform {S : QS} {g : QG} {Q : Option Value → QS → Prop} {p : Nat} {x1 : Int32} {r : Bool × QS} (w : q_Wire S) (hp : q_pok p) (aF : q_aF S p) (h : fX9_perform S p x1 = some r) (hQ : Q (some (.int (q_b r.1))) r.2) : q_M g mX9_perform 2 0 0 [.ref 84, .int x1] S Q := by
  unfold fX9_perform at h
  show q_L g mX9_perform 2 0 0 Q 0 0 0 [(0, .ref 84), (1, .int x1)] [] S
  refine q_aload_n 0 rfl rfl dX9_perform_0 ?_
  refine q_getR (q_sh84 w) (by decide) (by decide) rfl lfX9_40 dX9_perform_1 (r := (p + 10)) (aF).2.2 ?_
  refine q_getRN (q_shP10 w hp) (by decide) (by decide) rfl lfX9_111 dX9_perform_4 (r := (p + 12)) (q_wrP10_2 w hp) ?_
  refine q_iload_n 1 rfl rfl dX9_perform_7 ?_
  obtain ⟨hg1, h⟩ := q_guard h
  refine q_iald (q_shP12 w hp) (q_inb_in hg1) dX9_perform_8 ?_
  refine q_istore_n [(2, .int (S.2.1 (p + 12) x1.toNatClampNeg)), (0, .ref 84), (1, .int x1)] rfl (by decide) rfl dX9_perform_9 ?_
  refine q_bipush (v := (12 : Int32)) (by decide) dX9_perform_10 ?_
  refine q_aload_n 1 rfl rfl dX9_perform_12 ?_
  refine q_getR (q_sh84 w) (by decide) (by decide) rfl lfX9_40 dX9_perform_13 (r := (p + 10)) (aF).2.2 ?_
  refine q_getRN (q_shP10 w hp) (by decide) (by decide) rfl lfX9_74 dX9_perform_16 (r := (p + 17)) (q_wrP10_7 w hp) ?_
  refine q_iload_n 2 rfl rfl dX9_perform_19 ?_
  obtain ⟨hg2, h⟩ := q_guard h
  refine q_iald (q_shP17 w hp) (q_inb_in hg2) dX9_perform_20 ?_
  refine q_iadd dX9_perform_21 ?_
  refine q_istore_n [(3, .int ((12 : Int32) + (S.2.1 (p + 17) x1.toNatClampNeg))), (2, .int (S.2.1 (p + 12) x1.toNatClampNeg)), (0, .ref 84), (1, .int x1)] rfl (by decide) rfl dX9_perform_22 ?_
  refine q_iload_n 0 rfl rfl dX9_perform_23 ?_
  refine q_aload_n 2 rfl rfl dX9_perform_24 ?_
  refine q_getR (q_sh84 w) (by decide) (by decide) rfl lfX9_25 dX9_perform_25 (r := p) (aF).1 ?_
  refine q_iload_n 3 rfl rfl dX9_perform_28 ?_
  obtain ⟨r3, e4, h⟩ := q_bind h
  refine q_callV (ci := 5) (d := 1) (Mc := mX5_takes) (kc := 0) (nc := 0) [.int x1] okX5_takes (q_shP0 w hp) (by decide) rfl lmX9_79 inX5_takes seX5_takes rfl (Nat.le_of_ble_eq_true rfl) (Nat.le_of_ble_eq_true rfl) (Nat.le_refl _) (Nat.le_refl _) dX9_perform_29 (q_L.deep (by decide) (kX5_takes (Q := fun r S' => r = some (.int r3) ∧ S' = S) w hp e4 ⟨rfl, rfl⟩)) (q_kI ?_)
  refine q_isub dX9_perform_32 ?_
  refine q_istore [(4, .int (((12 : Int32) + (S.2.1 (p + 17) x1.toNatClampNeg)) - r3)), (3, .int ((12 : Int32) + (S.2.1 (p + 17) x1.toNatClampNeg))), (2, .int (S.2.1 (p + 12) x1.toNatClampNeg)), (0, .ref 84), (1, .int x1)] (by decide) rfl dX9_perform_33 ?_
  refine q_aload_n 3 rfl rfl dX9_perform_35 ?_
  refine q_getR (q_sh84 w) (by decide) (by decide) rfl lfX9_40 dX9_perform_36 (r := (p + 10)) (aF).2.2 ?_
  refine q_getRN (q_shP10 w hp) (by decide) (by decide) rfl lfX9_87 dX9_perform_39 (r := (p + 11)) (q_wrP10_1 w hp) ?_
  refine q_iload_n 4 rfl rfl dX9_perform_42 ?_
  obtain ⟨hg5, h⟩ := q_guard h
  refine q_iald (q_shP11 w hp) (q_inb_in hg5) dX9_perform_43 ?_
  by_cases c6 : (S.2.1 (p + 11) x1.toNatClampNeg) = (2 : Int32)
  · rw [if_pos c6] at h
    refine q_lookup (M := mX9_perform) (pc := 44) (x := (S.2.1 (p + 11) x1.toNatClampNeg)) 96 (by decide) (by rw [c6] <;> rfl) (by decide) dX9_perform_44 ?_
    refine q_aload_n 3 rfl rfl dX9_perform_96 ?_
    refine q_getR (q_sh84 w) (by decide) (by decide) rfl lfX9_22 dX9_perform_97 (r := 88) (q_wr84_7 w) ?_
    refine q_iload_n 1 rfl rfl dX9_perform_100 ?_
    refine q_aload_n 3 rfl rfl dX9_perform_101 ?_
    refine q_getR (q_sh84 w) (by decide) (by decide) rfl lfX9_22 dX9_perform_102 (r := 88) (q_wr84_7 w) ?_
    refine q_iload_n 2 rfl rfl dX9_perform_105 ?_
    obtain ⟨hg7, h⟩ := q_guard h
    refine q_bald (q_sh88 w) (q_inb_in hg7) dX9_perform_106 ?_
    obtain ⟨hg8, h⟩ := q_guard h
    refine q_bast (q_sh88 w) (q_inb_in hg8) dX9_perform_107 ?_
    obtain ⟨S9, e10, h⟩ := q_bindS h
    refine q_st e10 ?_
    have fx11 : q_Fx S S9 := e10 ▸ q_Fx.sI (q_Fx.rf S)
    refine q_iconst (v := (1 : Int32)) (by decide) dX9_perform_108 ?_
    obtain rfl := Option.some.inj h
    exact q_iret rfl (by decide) dX9_perform_109 hQ
  rw [if_neg c6] at h
  by_cases c12 : (S.2.1 (p + 11) x1.toNatClampNeg) = (3 : Int32)
  · rw [if_pos c12] at h
    refine q_lookup (M := mX9_perform) (pc := 44) (x := (S.2.1 (p + 11) x1.toNatClampNeg)) 110 (by decide) (by rw [c12] <;> rfl) (by decide) dX9_perform_44 ?_
    refine q_aload_n 3 rfl rfl dX9_perform_110 ?_
    refine q_getR (q_sh84 w) (by decide) (by decide) rfl lfX9_22 dX9_perform_111 (r := 88) (q_wr84_7 w) ?_
    refine q_iload_n 2 rfl rfl dX9_perform_114 ?_
    refine q_aload_n 3 rfl rfl dX9_perform_115 ?_
    refine q_getR (q_sh84 w) (by decide) (by decide) rfl lfX9_22 dX9_perform_116 (r := 88) (q_wr84_7 w) ?_
    refine q_iload 0 rfl dX9_perform_119 ?_
    obtain ⟨hg13, h⟩ := q_guard h
    refine q_bald (q_sh88 w) (q_inb_in hg13) dX9_perform_121 ?_
    obtain ⟨hg14, h⟩ := q_guard h
    refine q_bast (q_sh88 w) (q_inb_in hg14) dX9_perform_122 ?_
    obtain ⟨S15, e16, h⟩ := q_bindS h
    refine q_st e16 ?_
    have fx17 : q_Fx S S15 := e16 ▸ q_Fx.sI (q_Fx.rf S)
    refine q_iconst (v := (1 : Int32)) (by decide) dX9_perform_123 ?_
    obtain rfl := Option.some.inj h
    exact q_iret rfl (by decide) dX9_perform_124 hQ
  rw [if_neg c12] at h
  by_cases c18 : (S.2.1 (p + 11) x1.toNatClampNeg) = (5 : Int32)
  · rw [if_pos c18] at h
    refine q_lookup (M := mX9_perform) (pc := 44) (x := (S.2.1 (p + 11) x1.toNatClampNeg)) 125 (by decide) (by rw [c18] <;> rfl) (by decide) dX9_perform_44 ?_
    refine q_aload_n 3 rfl rfl dX9_perform_125 ?_
    refine q_getR (q_sh84 w) (by decide) (by decide) rfl lfX9_22 dX9_perform_126 (r := 88) (q_wr84_7 w) ?_
    refine q_iload_n 1 rfl rfl dX9_perform_129 ?_
    refine q_aload_n 3 rfl rfl dX9_perform_130 ?_
    refine q_getR (q_sh84 w) (by decide) (by decide) rfl lfX9_22 dX9_perform_131 (r := 88) (q_wr84_7 w) ?_
    refine q_iload 0 rfl dX9_perform_134 ?_
    obtain ⟨hg19, h⟩ := q_guard h
    refine q_bald (q_sh88 w) (q_inb_in hg19) dX9_perform_136 ?_
    obtain ⟨hg20, h⟩ := q_guard h
    refine q_bast (q_sh88 w) (q_inb_in hg20) dX9_perform_137 ?_
    obtain ⟨S21, e22, h⟩ := q_bindS h
    refine q_st e22 ?_
    have fx23 : q_Fx S S21 := e22 ▸ q_Fx.sI (q_Fx.rf S)
    refine q_iconst (v := (1 : Int32)) (by decide) dX9_perform_138 ?_
    obtain rfl := Option.some.inj h
    exact q_iret rfl (by decide) dX9_perform_139 hQ
  rw [if_neg c18] at h
  by_cases c24 : (S.2.1 (p + 11) x1.toNatClampNeg) = (7 : Int32)
  · rw [if_pos c24] at h
    refine q_lookup (M := mX9_perform) (pc := 44) (x := (S.2.1 (p + 11) x1.toNatClampNeg)) 140 (by decide) (by rw [c24] <;> rfl) (by decide) dX9_perform_44 ?_
    refine q_aload_n 3 rfl rfl dX9_perform_140 ?_
    refine q_iload 0 rfl dX9_perform_141 ?_
    refine q_iload 0 rfl dX9_perform_143 ?_
    refine q_iconst (v := (1 : Int32)) (by decide) dX9_perform_145 ?_
    refine q_iadd dX9_perform_146 ?_
    obtain ⟨r25, e26, h⟩ := q_bind h
    refine q_callV (ci := 9) (d := 1) (Mc := mX9_swap) (kc := 0) (nc := 0) [.int (((12 : Int32) + (S.2.1 (p + 17) x1.toNatClampNeg)) - r3), .int ((((12 : Int32) + (S.2.1 (p + 17) x1.toNatClampNeg)) - r3) + (1 : Int32))] okX9_swap (q_sh84 w) (by decide) rfl lmX9_129 inX9_swap seX9_swap rfl (Nat.le_of_ble_eq_true rfl) (Nat.le_of_ble_eq_true rfl) (Nat.le_refl _) (Nat.le_refl _) dX9_perform_147 (q_L.deep (by decide) (kX9_swap (Q := fun r S' => r = none ∧ S' = r25) w e26 ⟨rfl, rfl⟩)) (q_kV ?_)
    have fx27 : q_Fx S r25 := q_Fx.tr (q_Fx.rf S) (fxX9_swap e26)
    refine q_iconst (v := (1 : Int32)) (by decide) dX9_perform_150 ?_
    obtain rfl := Option.some.inj h
    exact q_iret rfl (by decide) dX9_perform_151 hQ
  rw [if_neg c24] at h
  by_cases c28 : (S.2.1 (p + 11) x1.toNatClampNeg) = (33 : Int32)
  · rw [if_pos c28] at h
    refine q_lookup (M := mX9_perform) (pc := 44) (x := (S.2.1 (p + 11) x1.toNatClampNeg)) 152 (by decide) (by rw [c28] <;> rfl) (by decide) dX9_perform_44 ?_
    refine q_aload_n 3 rfl rfl dX9_perform_152 ?_
    refine q_getR (q_sh84 w) (by decide) (by decide) rfl lfX9_22 dX9_perform_153 (r := 88) (q_wr84_7 w) ?_
    refine q_iload 0 rfl dX9_perform_156 ?_
    refine q_aload_n 3 rfl rfl dX9_perform_158 ?_
    refine q_getR (q_sh84 w) (by decide) (by decide) rfl lfX9_35 dX9_perform_159 (r := (p + 1)) (aF).2.1 ?_
    refine q_aload_n 3 rfl rfl dX9_perform_162 ?_
    refine q_getR (q_sh84 w) (by decide) (by decide) rfl lfX9_22 dX9_perform_163 (r := 88) (q_wr84_7 w) ?_
    refine q_iload 0 rfl dX9_perform_166 ?_
    obtain ⟨hg29, h⟩ := q_guard h
    refine q_bald (q_sh88 w) (q_inb_in hg29) dX9_perform_168 ?_
    obtain ⟨r30, e31, h⟩ := q_bind h
    refine q_callV (ci := 0) (d := 1) (Mc := mX0_elementOf) (kc := 0) (nc := 0) [.int (S.2.1 88 (((12 : Int32) + (S.2.1 (p + 17) x1.toNatClampNeg)) - r3).toNatClampNeg)] okX0_elementOf (q_shP1 w hp) (by decide) rfl lmX9_132 inX0_elementOf seX0_elementOf rfl (Nat.le_of_ble_eq_true rfl) (Nat.le_of_ble_eq_true rfl) (Nat.le_refl _) (Nat.le_refl _) dX9_perform_169 (q_L.deep (by decide) (kX0_elementOf (Q := fun r S' => r = some (.int r30) ∧ S' = S) w hp e31 ⟨rfl, rfl⟩)) (q_kI ?_)
    refine q_i2b dX9_perform_172 ?_
    obtain ⟨hg32, h⟩ := q_guard h
    refine q_bast (q_sh88 w) (q_inb_in hg32) dX9_perform_173 ?_
    obtain ⟨S33, e34, h⟩ := q_bindS h
    refine q_st e34 ?_
    have fx35 : q_Fx S S33 := e34 ▸ q_Fx.sI (q_Fx.rf S)
    refine q_aload_n 3 rfl rfl dX9_perform_174 ?_
    refine q_getR (q_sh84 (w.fx fx35)) (by decide) (by decide) rfl lfX9_22 dX9_perform_175 (r := 88) (q_wr84_7 (w.fx fx35)) ?_
    refine q_iload 0 rfl dX9_perform_178 ?_
    obtain ⟨hg36, h⟩ := q_guard h
    refine q_bald (q_sh88 (w.fx fx35)) (q_inb_in hg36) dX9_perform_180 ?_
    refine q_bipush (v := (68 : Int32)) (by decide) dX9_perform_181 ?_
    refine q_icmp_eq 190 (by decide) dX9_perform_183 (fun c => ?_) (fun c => ?_)
    · rw [if_pos c] at h
      refine q_iconst (v := (0 : Int32)) (by decide) dX9_perform_190 ?_
      obtain rfl := Option.some.inj h
      exact q_iret rfl (by decide) dX9_perform_191 hQ
    · rw [if_neg c] at h
      refine q_iconst (v := (1 : Int32)) (by decide) dX9_perform_186 ?_
      refine q_goto 191 (by decide) dX9_perform_187 ?_
      obtain rfl := Option.some.inj h
      exact q_iret rfl (by decide) dX9_perform_191 hQ
  rw [if_neg c28] at h
  refine q_lookup (M := mX9_perform) (pc := 44) (x := (S.2.1 (p + 11) x1.toNatClampNeg)) (off := 148) 192 (by decide) (by rw [lv_osw c6 (by decide), lv_osw c12 (by decide), lv_osw c18 (by decide), lv_osw c24 (by decide), lv_osw c28 (by decide)] <;> rfl) (by decide) dX9_perform_44 ?_
  refine q_aload_n 3 rfl rfl dX9_perform_192 ?_
  refine q_getR (q_sh84 w) (by decide) (by decide) rfl lfX9_25 dX9_perform_193 (r := p) (aF).1 ?_
  refine q_iload_n 4 rfl rfl dX9_perform_196 ?_
  obtain ⟨r37, e38, h⟩ := q_bind h
  refine q_callV (ci := 5) (d := 1) (Mc := mX5_leaves) (kc := 0) (nc := 0) [.int x1] okX5_leaves (q_shP0 w hp) (by decide) rfl lmX9_135 inX5_leaves seX5_leaves rfl (Nat.le_of_ble_eq_true rfl) (Nat.le_of_ble_eq_true rfl) (Nat.le_refl _) (Nat.le_refl _) dX9_perform_197 (q_L.deep (by decide) (kX5_leaves (Q := fun r S' => r = some (.int r37) ∧ S' = S) w hp e38 ⟨rfl, rfl⟩)) (q_kI ?_)
  refine q_iconst (v := (1 : Int32)) (by decide) dX9_perform_200 ?_
  refine q_icmp_ne 220 (by decide) dX9_perform_201 (fun c => ?_) (fun c => ?_)
  · rw [if_neg c] at h
    refine q_iconst (v := (1 : Int32)) (by decide) dX9_perform_220 ?_
    obtain rfl := Option.some.inj h
    exact q_iret rfl (by decide) dX9_perform_221 hQ
  · rw [if_pos c] at h
    refine q_aload_n 3 rfl rfl dX9_perform_204 ?_
    refine q_getR (q_sh84 w) (by decide) (by decide) rfl lfX9_22 dX9_perform_205 (r := 88) (q_wr84_7 w) ?_
    refine q_iload 0 rfl dX9_perform_208 ?_
    refine q_aload_n 3 rfl rfl dX9_perform_210 ?_
    refine q_getR (q_sh84 w) (by decide) (by decide) rfl lfX9_25 dX9_perform_211 (r := p) (aF).1 ?_
    refine q_iload_n 4 rfl rfl dX9_perform_214 ?_
    obtain ⟨r39, e40, h⟩ := q_bind h
    refine q_callV (ci := 5) (d := 1) (Mc := mX5_leftBy) (kc := 0) (nc := 0) [.int x1] okX5_leftBy (q_shP0 w hp) (by decide) rfl lmX9_138 inX5_leftBy seX5_leftBy rfl (Nat.le_of_ble_eq_true rfl) (Nat.le_of_ble_eq_true rfl) (Nat.le_refl _) (Nat.le_refl _) dX9_perform_215 (q_L.deep (by decide) (kX5_leftBy (Q := fun r S' => r = some (.int r39) ∧ S' = S) w hp e40 ⟨rfl, rfl⟩)) (q_kI ?_)
    refine q_i2b dX9_perform_218 ?_
    obtain ⟨hg41, h⟩ := q_guard h
    refine q_bast (q_sh88 w) (q_inb_in hg41) dX9_perform_219 ?_
    obtain ⟨S42, e43, h⟩ := q_bindS h
    refine q_st e43 ?_
    have fx44 : q_Fx S S42 := e43 ▸ q_Fx.sI (q_Fx.rf S)
    refine q_iconst (v := (1 : Int32)) (by decide) dX9_perform_220 ?_
    obtain rfl := Option.some.inj h
    exact q_iret rfl (by decide) dX9_perform_221 hQ
set_option maxRecDepth 20000 in
theorem sX9_spread_86 {g : QG} {Q : Option Value → QS → Prop} {p : Nat} {y1 : Int32} {y2 : Int32} {x : Int32 × QS} {z : (QS) ⊕ (Int32 × QS)} (w : q_Wire x.2) (hp : q_pok p) (aF : q_aF x.2 p) (h : tX9_spread_86 p y1 y2 x = some z) (hQ : (Sum.elim (fun r0 : QS => Q none r0) (fun y : Int32 × QS => q_L g mX9_spread 4 0 0 Q 0 0 86 [(0, .ref 84), (1, .int y1), (2, .int y2), (3, .int y.1)] [] y.2) z)) : q_L g mX9_spread 4 0 0 Q 0 0 86 [(0, .ref 84), (1, .int y1), (2, .int y2), (3, .int x.1)] [] x.2 := by
  unfold tX9_spread_86 at h
  refine q_iload_n 3 rfl rfl dX9_spread_86 ?_
  refine q_aload_n 0 rfl rfl dX9_spread_87 ?_
  refine q_getR (q_sh84 w) (by decide) (by decide) rfl lfX9_25 dX9_spread_88 (r := p) (aF).1 ?_
  refine q_getRN (q_shP0 w hp) (by decide) (by decide) rfl lfX9_117 dX9_spread_91 (r := (p + 32)) (q_wrP0_13 w hp) ?_
  refine q_iload_n 2 rfl rfl dX9_spread_94 ?_
  obtain ⟨hg1, h⟩ := q_guard h
  refine q_iald (q_shP32 w hp) (q_inb_in hg1) dX9_spread_95 ?_
  refine q_icmp_ge 165 (by decide) dX9_spread_96 (fun c => ?_) (fun c => ?_)
  · rw [if_pos c] at h
    cases h
    exact q_vret rfl dX9_spread_165 hQ
  · rw [if_neg c] at h
    refine q_aload_n 0 rfl rfl dX9_spread_99 ?_
    refine q_getR (q_sh84 w) (by decide) (by decide) rfl lfX9_40 dX9_spread_100 (r := (p + 10)) (aF).2.2 ?_
    refine q_iload_n 1 rfl rfl dX9_spread_103 ?_
    refine q_iload_n 3 rfl rfl dX9_spread_104 ?_
    obtain ⟨r2, e3, h⟩ := q_bind h
    refine q_callV (ci := 1) (d := 3) (Mc := mX1_isCaught) (kc := 0) (nc := 0) [.int y1, .int x.1] okX1_isCaught (q_shP10 w hp) (by decide) rfl lmX9_120 inX1_isCaught seX1_isCaught rfl (Nat.le_of_ble_eq_true rfl) (Nat.le_of_ble_eq_true rfl) (Nat.le_refl _) (Nat.le_refl _) dX9_spread_105 (q_L.deep (by decide) (kX1_isCaught (Q := fun r S' => r = some (.int (q_b r2)) ∧ S' = x.2) w hp e3 ⟨rfl, rfl⟩)) (q_kI ?_)
    refine q_if_eq 159 (by decide) dX9_spread_108 (fun c => ?_) (fun c => ?_)
    · have c := q_b_0.mp c; rw [q_if0 c] at h
      refine q_iinc (v := (x.1 + (1 : Int32))) 3 [(3, .int (x.1 + (1 : Int32))), (0, .ref 84), (1, .int y1), (2, .int y2)] (by decide) rfl (congrArg (fun t => x.1 + t) (by decide)) rfl dX9_spread_159 ?_
      refine q_goto 86 (by decide) dX9_spread_162 ?_
      refine q_sub [1, 2, 3, 0] rfl ?_
      cases h
      exact hQ
    · have c := q_b_n.mp c; rw [q_if1 c] at h
      refine q_aload_n 0 rfl rfl dX9_spread_111 ?_
      refine q_getR (q_sh84 w) (by decide) (by decide) rfl lfX9_9 dX9_spread_112 (r := 85) (q_wr84_3 w) ?_
      refine q_iload_n 1 rfl rfl dX9_spread_115 ?_
      refine q_bipush (v := (20 : Int32)) (by decide) dX9_spread_116 ?_
      refine q_imul dX9_spread_118 ?_
      refine q_aload_n 0 rfl rfl dX9_spread_119 ?_
      refine q_getR (q_sh84 w) (by decide) (by decide) rfl lfX9_22 dX9_spread_120 (r := 88) (q_wr84_7 w) ?_
      refine q_iconst (v := (0 : Int32)) (by decide) dX9_spread_123 ?_
      refine q_bipush (v := (20 : Int32)) (by decide) dX9_spread_124 ?_
      obtain ⟨hg4, h⟩ := q_guard h
      obtain ⟨k1, k2, k3, k4, k5, k6⟩ := q_cpok_of hg4
      refine q_copy (by decide) (by decide) (q_sh85 w) (q_sh88 w) k1 k2 k3 k4 k5 k6 lmX9_96 q_acn q_acs q_aci (Nat.le_of_ble_eq_true rfl) dX9_spread_126 ?_
      obtain ⟨S5, e6, h⟩ := q_bindS h
      refine q_st e6 ?_
      have fx7 : q_Fx x.2 S5 := e6 ▸ q_Fx.cp (q_Fx.rf x.2)
      refine q_aload_n 0 rfl rfl dX9_spread_129 ?_
      refine q_getR (q_sh84 (w.fx fx7)) (by decide) (by decide) rfl lfX9_22 dX9_spread_130 (r := 88) (q_wr84_7 (w.fx fx7)) ?_
      refine q_bipush (v := (12 : Int32)) (by decide) dX9_spread_133 ?_
      refine q_aload_n 0 rfl rfl dX9_spread_135 ?_
      refine q_getR (q_sh84 (w.fx fx7)) (by decide) (by decide) rfl lfX9_40 dX9_spread_136 (r := (p + 10)) (aF.fx fx7).2.2 ?_
      refine q_getRN (q_shP10 (w.fx fx7) hp) (by decide) (by decide) rfl lfX9_123 dX9_spread_139 (r := (p + 21)) (q_wrP10_13 (w.fx fx7) hp) ?_
      refine q_iload_n 3 rfl rfl dX9_spread_142 ?_
      obtain ⟨hg8, h⟩ := q_guard h
      refine q_iald (q_shP21 (w.fx fx7) hp) (q_inb_in hg8) dX9_spread_143 ?_
      refine q_i2b dX9_spread_144 ?_
      obtain ⟨hg9, h⟩ := q_guard h
      refine q_bast (q_sh88 (w.fx fx7)) (q_inb_in hg9) dX9_spread_145 ?_
      obtain ⟨S10, e11, h⟩ := q_bindS h
      refine q_st e11 ?_
      have fx12 : q_Fx x.2 S10 := e11 ▸ q_Fx.sI (fx7)
      refine q_aload_n 0 rfl rfl dX9_spread_146 ?_
      refine q_aload_n 0 rfl rfl dX9_spread_147 ?_
      refine q_getR (q_sh84 (w.fx fx12)) (by decide) (by decide) rfl lfX9_40 dX9_spread_148 (r := (p + 10)) (aF.fx fx12).2.2 ?_
      refine q_getRN (q_shP10 (w.fx fx12) hp) (by decide) (by decide) rfl lfX9_126 dX9_spread_151 (r := (p + 20)) (q_wrP10_12 (w.fx fx12) hp) ?_
      refine q_iload_n 3 rfl rfl dX9_spread_154 ?_
      obtain ⟨hg13, h⟩ := q_guard h
      refine q_iald (q_shP20 (w.fx fx12) hp) (q_inb_in hg13) dX9_spread_155 ?_
      obtain ⟨r14, e15, h⟩ := q_bind h
      refine q_callV (ci := 9) (d := 3) (Mc := mX9_arrive) (kc := 0) (nc := 0) [.int (S10.2.1 (p + 20) x.1.toNatClampNeg)] okX9_arrive (q_sh84 (w.fx fx12)) (by decide) rfl lmX9_71 inX9_arrive seX9_arrive rfl (Nat.le_of_ble_eq_true rfl) (Nat.le_of_ble_eq_true rfl) (Nat.le_refl _) (Nat.le_refl _) dX9_spread_156 (q_L.deep (by decide) (kX9_arrive (Q := fun r S' => r = none ∧ S' = r14) (w.fx fx12) hp (aF.fx fx12) e15 ⟨rfl, rfl⟩)) (q_kV ?_)
      have fx16 : q_Fx x.2 r14 := q_Fx.tr (fx12) (fxX9_arrive e15)
      refine q_iinc (v := (x.1 + (1 : Int32))) 3 [(3, .int (x.1 + (1 : Int32))), (0, .ref 84), (1, .int y1), (2, .int y2)] (by decide) rfl (congrArg (fun t => x.1 + t) (by decide)) rfl dX9_spread_159 ?_
      refine q_goto 86 (by decide) dX9_spread_162 ?_
      refine q_sub [1, 2, 3, 0] rfl ?_
      cases h
      exact hQ
theorem lX9_spread_86 {g : QG} {Q : Option Value → QS → Prop} {p : Nat} {y1 : Int32} {y2 : Int32} {r : QS} (hp : q_pok p) (hQ : Q none r) : ∀ (c : Nat) (x : Int32 × QS), q_Wire x.2 → q_aF x.2 p → q_it (tX9_spread_86 p y1 y2) c x = some r → q_L g mX9_spread 4 0 0 Q 0 0 86 [(0, .ref 84), (1, .int y1), (2, .int y2), (3, .int x.1)] [] x.2 := by
  intro c
  induction c with
  | zero => intro x w aF h; cases h
  | succ c ih =>
    intro x w aF h
    simp only [q_it] at h
    cases hz : tX9_spread_86 p y1 y2 x with
    | none => rw [hz] at h; cases h
    | some z =>
      rw [hz] at h
      refine sX9_spread_86 w hp aF hz ?_
      rcases z with z | y
      · cases h; exact hQ
      · have fz := fxtX9_spread_86 hz; exact ih y (w.fx fz) (aF.fx fz) h
theorem kX9_spread_86 {S : QS} {g : QG} {Q : Option Value → QS → Prop} {p : Nat} {y1 : Int32} {y2 : Int32} {y3 : Int32} {r : QS} (w : q_Wire S) (hp : q_pok p) (aF : q_aF S p) (h : fX9_spread_86 S p y1 y2 y3 = some r) (hQ : Q none r) : q_L g mX9_spread 4 0 0 Q 0 0 86 [(0, .ref 84), (1, .int y1), (2, .int y2), (3, .int y3)] [] S := by
  obtain ⟨c, hc⟩ := q_run_it h
  exact lX9_spread_86 hp hQ c (y3, S) w aF hc
set_option maxRecDepth 20000 in
theorem kX9_spread {S : QS} {g : QG} {Q : Option Value → QS → Prop} {p : Nat} {x1 : Int32} {x2 : Int32} {r : QS} (w : q_Wire S) (hp : q_pok p) (aF : q_aF S p) (h : fX9_spread S p x1 x2 = some r) (hQ : Q none r) : q_M g mX9_spread 4 0 0 [.ref 84, .int x1, .int x2] S Q := by
  unfold fX9_spread at h
  show q_L g mX9_spread 4 0 0 Q 0 0 0 [(0, .ref 84), (1, .int x1), (2, .int x2)] [] S
  refine q_aload_n 0 rfl rfl dX9_spread_0 ?_
  refine q_getR (q_sh84 w) (by decide) (by decide) rfl lfX9_9 dX9_spread_1 (r := 85) (q_wr84_3 w) ?_
  refine q_iload_n 1 rfl rfl dX9_spread_4 ?_
  refine q_bipush (v := (20 : Int32)) (by decide) dX9_spread_5 ?_
  refine q_imul dX9_spread_7 ?_
  refine q_aload_n 0 rfl rfl dX9_spread_8 ?_
  refine q_getR (q_sh84 w) (by decide) (by decide) rfl lfX9_22 dX9_spread_9 (r := 88) (q_wr84_7 w) ?_
  refine q_iconst (v := (0 : Int32)) (by decide) dX9_spread_12 ?_
  refine q_bipush (v := (20 : Int32)) (by decide) dX9_spread_13 ?_
  obtain ⟨hg17, h⟩ := q_guard h
  obtain ⟨k1, k2, k3, k4, k5, k6⟩ := q_cpok_of hg17
  refine q_copy (by decide) (by decide) (q_sh85 w) (q_sh88 w) k1 k2 k3 k4 k5 k6 lmX9_96 q_acn q_acs q_aci (Nat.le_of_ble_eq_true rfl) dX9_spread_15 ?_
  obtain ⟨S18, e19, h⟩ := q_bindS h
  refine q_st e19 ?_
  have fx20 : q_Fx S S18 := e19 ▸ q_Fx.cp (q_Fx.rf S)
  refine q_aload_n 0 rfl rfl dX9_spread_18 ?_
  refine q_iload_n 1 rfl rfl dX9_spread_19 ?_
  obtain ⟨r21, e22, h⟩ := q_bind h
  refine q_callV (ci := 9) (d := 3) (Mc := mX9_perform) (kc := 0) (nc := 0) [.int x1] okX9_perform (q_sh84 (w.fx fx20)) (by decide) rfl lmX9_102 inX9_perform seX9_perform rfl (Nat.le_of_ble_eq_true rfl) (Nat.le_of_ble_eq_true rfl) (Nat.le_refl _) (Nat.le_refl _) dX9_spread_20 (q_L.deep (by decide) (kX9_perform (Q := fun r S' => r = some (.int (q_b r21.1)) ∧ S' = r21.2) (w.fx fx20) hp (aF.fx fx20) e22 ⟨rfl, rfl⟩)) (q_kI ?_)
  have fx23 : q_Fx S r21.2 := q_Fx.tr (fx20) (fxX9_perform e22)
  obtain ⟨v39, hv, h⟩ := q_bind h
  have fx40 : q_Fx S v39 := by
    replace h := hv
    by_cases c : r21.1 = true
    · rw [if_pos c] at h
      obtain ⟨hg24, h⟩ := q_guard h
      obtain ⟨r25, e26, h⟩ := q_bind h
      obtain ⟨v30, hv, h⟩ := q_bind h
      have fx31 : q_Fx S v30 := by
        replace h := hv
        by_cases c : r25 = true
        · rw [if_pos c] at h
          obtain ⟨r27, e28, h⟩ := q_bind h
          have fx29 : q_Fx S r27 := q_Fx.tr (fx23) (fxX9_arrive e28)
          obtain rfl := Option.some.inj h
          exact fx29
        · rw [if_neg c] at h
          obtain rfl := Option.some.inj h
          exact fx23
      obtain ⟨hg32, h⟩ := q_guard h
      obtain ⟨r33, e34, h⟩ := q_bind h
      by_cases c : r33 = true
      · rw [if_pos c] at h
        obtain ⟨hg35, h⟩ := q_guard h
        obtain ⟨r36, e37, h⟩ := q_bind h
        have fx38 : q_Fx S r36 := q_Fx.tr (fx31) (fxX9_arrive e37)
        obtain rfl := Option.some.inj h
        exact fx38
      · rw [if_neg c] at h
        obtain rfl := Option.some.inj h
        exact fx31
    · rw [if_neg c] at h
      obtain rfl := Option.some.inj h
      exact fx23
  have K1 : q_L g mX9_spread 4 0 0 Q 0 0 76 [(0, .ref 84), (1, .int x1), (2, .int x2)] [] v39 := by
    refine q_aload_n 0 rfl rfl dX9_spread_76 ?_
    refine q_getR (q_sh84 (w.fx fx40)) (by decide) (by decide) rfl lfX9_25 dX9_spread_77 (r := p) (aF.fx fx40).1 ?_
    refine q_getRN (q_shP0 (w.fx fx40) hp) (by decide) (by decide) rfl lfX9_114 dX9_spread_80 (r := (p + 31)) (q_wrP0_12 (w.fx fx40) hp) ?_
    refine q_iload_n 2 rfl rfl dX9_spread_83 ?_
    obtain ⟨hg41, h⟩ := q_guard h
    refine q_iald (q_shP31 (w.fx fx40) hp) (q_inb_in hg41) dX9_spread_84 ?_
    refine q_istore_n [(3, .int (v39.2.1 (p + 31) x2.toNatClampNeg)), (0, .ref 84), (1, .int x1), (2, .int x2)] rfl (by decide) rfl dX9_spread_85 ?_
    refine q_sub [1, 2, 3, 0] rfl ?_
    exact kX9_spread_86 (w.fx fx40) hp (aF.fx fx40) h hQ
  replace h := hv
  refine q_if_eq 76 (by decide) dX9_spread_23 (fun c => ?_) (fun c => ?_)
  · have c := q_b_0.mp c; rw [q_if0 c] at h
    obtain rfl := Option.some.inj h
    refine q_sub [0, 1, 2] rfl ?_
    exact K1
  · have c := q_b_n.mp c; rw [q_if1 c] at h
    refine q_aload_n 0 rfl rfl dX9_spread_26 ?_
    refine q_getR (q_sh84 (w.fx fx23)) (by decide) (by decide) rfl lfX9_40 dX9_spread_27 (r := (p + 10)) (aF.fx fx23).2.2 ?_
    refine q_getRN (q_shP10 (w.fx fx23) hp) (by decide) (by decide) rfl lfX9_87 dX9_spread_30 (r := (p + 11)) (q_wrP10_1 (w.fx fx23) hp) ?_
    refine q_iload_n 1 rfl rfl dX9_spread_33 ?_
    obtain ⟨hg24, h⟩ := q_guard h
    refine q_iald (q_shP11 (w.fx fx23) hp) (q_inb_in hg24) dX9_spread_34 ?_
    obtain ⟨r25, e26, h⟩ := q_bind h
    refine q_callS (d := 3) (Mc := mX1_goesOn) (kc := 0) (nc := 0) [.int (r21.2.2.1 (p + 11) x1.toNatClampNeg)] okX1_goesOn lmX9_105 inX1_goesOn rfl (Nat.le_of_ble_eq_true rfl) (Nat.le_of_ble_eq_true rfl) (Nat.le_refl _) (Nat.le_refl _) dX9_spread_35 (q_L.deep (by decide) (kX1_goesOn (Q := fun r S' => r = some (.int (q_b r25)) ∧ S' = r21.2) (w.fx fx23) e26 ⟨rfl, rfl⟩)) (q_kI ?_)
    obtain ⟨v30, hv, h⟩ := q_bind h
    have fx31 : q_Fx S v30 := by
      replace h := hv
      by_cases c : r25 = true
      · rw [if_pos c] at h
        obtain ⟨r27, e28, h⟩ := q_bind h
        have fx29 : q_Fx S r27 := q_Fx.tr (fx23) (fxX9_arrive e28)
        obtain rfl := Option.some.inj h
        exact fx29
      · rw [if_neg c] at h
        obtain rfl := Option.some.inj h
        exact fx23
    have K2 : q_L g mX9_spread 4 0 0 Q 0 0 48 [(0, .ref 84), (1, .int x1), (2, .int x2)] [] v30 := by
      refine q_aload_n 0 rfl rfl dX9_spread_48 ?_
      refine q_getR (q_sh84 (w.fx fx31)) (by decide) (by decide) rfl lfX9_40 dX9_spread_49 (r := (p + 10)) (aF.fx fx31).2.2 ?_
      refine q_getRN (q_shP10 (w.fx fx31) hp) (by decide) (by decide) rfl lfX9_87 dX9_spread_52 (r := (p + 11)) (q_wrP10_1 (w.fx fx31) hp) ?_
      refine q_iload_n 1 rfl rfl dX9_spread_55 ?_
      obtain ⟨hg32, h⟩ := q_guard h
      refine q_iald (q_shP11 (w.fx fx31) hp) (q_inb_in hg32) dX9_spread_56 ?_
      obtain ⟨r33, e34, h⟩ := q_bind h
      refine q_callS (d := 3) (Mc := mX1_goesToLabel) (kc := 0) (nc := 0) [.int (v30.2.1 (p + 11) x1.toNatClampNeg)] okX1_goesToLabel lmX9_108 inX1_goesToLabel rfl (Nat.le_of_ble_eq_true rfl) (Nat.le_of_ble_eq_true rfl) (Nat.le_refl _) (Nat.le_refl _) dX9_spread_57 (q_L.deep (by decide) (kX1_goesToLabel (Q := fun r S' => r = some (.int (q_b r33)) ∧ S' = v30) (w.fx fx31) e34 ⟨rfl, rfl⟩)) (q_kI ?_)
      refine q_if_eq 76 (by decide) dX9_spread_60 (fun c => ?_) (fun c => ?_)
      · have c := q_b_0.mp c; rw [q_if0 c] at h
        obtain rfl := Option.some.inj h
        refine q_sub [0, 1, 2] rfl ?_
        exact K1
      · have c := q_b_n.mp c; rw [q_if1 c] at h
        refine q_aload_n 0 rfl rfl dX9_spread_63 ?_
        refine q_aload_n 0 rfl rfl dX9_spread_64 ?_
        refine q_getR (q_sh84 (w.fx fx31)) (by decide) (by decide) rfl lfX9_40 dX9_spread_65 (r := (p + 10)) (aF.fx fx31).2.2 ?_
        refine q_getRN (q_shP10 (w.fx fx31) hp) (by decide) (by decide) rfl lfX9_111 dX9_spread_68 (r := (p + 12)) (q_wrP10_2 (w.fx fx31) hp) ?_
        refine q_iload_n 1 rfl rfl dX9_spread_71 ?_
        obtain ⟨hg35, h⟩ := q_guard h
        refine q_iald (q_shP12 (w.fx fx31) hp) (q_inb_in hg35) dX9_spread_72 ?_
        obtain ⟨r36, e37, h⟩ := q_bind h
        refine q_callV (ci := 9) (d := 3) (Mc := mX9_arrive) (kc := 0) (nc := 0) [.int (v30.2.1 (p + 12) x1.toNatClampNeg)] okX9_arrive (q_sh84 (w.fx fx31)) (by decide) rfl lmX9_71 inX9_arrive seX9_arrive rfl (Nat.le_of_ble_eq_true rfl) (Nat.le_of_ble_eq_true rfl) (Nat.le_refl _) (Nat.le_refl _) dX9_spread_73 (q_L.deep (by decide) (kX9_arrive (Q := fun r S' => r = none ∧ S' = r36) (w.fx fx31) hp (aF.fx fx31) e37 ⟨rfl, rfl⟩)) (q_kV ?_)
        have fx38 : q_Fx S r36 := q_Fx.tr (fx31) (fxX9_arrive e37)
        obtain rfl := Option.some.inj h
        refine q_sub [0, 1, 2] rfl ?_
        exact K1
    replace h := hv
    refine q_if_eq 48 (by decide) dX9_spread_38 (fun c => ?_) (fun c => ?_)
    · have c := q_b_0.mp c; rw [q_if0 c] at h
      obtain rfl := Option.some.inj h
      refine q_sub [0, 1, 2] rfl ?_
      exact K2
    · have c := q_b_n.mp c; rw [q_if1 c] at h
      refine q_aload_n 0 rfl rfl dX9_spread_41 ?_
      refine q_iload_n 1 rfl rfl dX9_spread_42 ?_
      refine q_iconst (v := (1 : Int32)) (by decide) dX9_spread_43 ?_
      refine q_iadd dX9_spread_44 ?_
      obtain ⟨r27, e28, h⟩ := q_bind h
      refine q_callV (ci := 9) (d := 3) (Mc := mX9_arrive) (kc := 0) (nc := 0) [.int (x1 + (1 : Int32))] okX9_arrive (q_sh84 (w.fx fx23)) (by decide) rfl lmX9_71 inX9_arrive seX9_arrive rfl (Nat.le_of_ble_eq_true rfl) (Nat.le_of_ble_eq_true rfl) (Nat.le_refl _) (Nat.le_refl _) dX9_spread_45 (q_L.deep (by decide) (kX9_arrive (Q := fun r S' => r = none ∧ S' = r27) (w.fx fx23) hp (aF.fx fx23) e28 ⟨rfl, rfl⟩)) (q_kV ?_)
      have fx29 : q_Fx S r27 := q_Fx.tr (fx23) (fxX9_arrive e28)
      obtain rfl := Option.some.inj h
      refine q_sub [0, 1, 2] rfl ?_
      exact K2
set_option maxRecDepth 20000 in
theorem kX9_isRight {S : QS} {g : QG} {Q : Option Value → QS → Prop} {p : Nat} {x1 : Int32} {r : Bool} (w : q_Wire S) (hp : q_pok p) (aF : q_aF S p) (h : fX9_isRight S p x1 = some r) (hQ : Q (some (.int (q_b r))) S) : q_M g mX9_isRight 3 0 0 [.ref 84, .int x1] S Q := by
  unfold fX9_isRight at h
  show q_L g mX9_isRight 3 0 0 Q 0 0 0 [(0, .ref 84), (1, .int x1)] [] S
  refine q_iload_n 1 rfl rfl dX9_isRight_0 ?_
  refine q_bipush (v := (20 : Int32)) (by decide) dX9_isRight_1 ?_
  refine q_imul dX9_isRight_3 ?_
  refine q_istore_n [(2, .int (x1 * (20 : Int32))), (0, .ref 84), (1, .int x1)] rfl (by decide) rfl dX9_isRight_4 ?_
  refine q_iload_n 0 rfl rfl dX9_isRight_5 ?_
  refine q_bipush (v := (12 : Int32)) (by decide) dX9_isRight_6 ?_
  refine q_iadd dX9_isRight_8 ?_
  refine q_aload_n 1 rfl rfl dX9_isRight_9 ?_
  refine q_getR (q_sh84 w) (by decide) (by decide) rfl lfX9_40 dX9_isRight_10 (r := (p + 10)) (aF).2.2 ?_
  refine q_getRN (q_shP10 w hp) (by decide) (by decide) rfl lfX9_74 dX9_isRight_13 (r := (p + 17)) (q_wrP10_7 w hp) ?_
  refine q_iload_n 2 rfl rfl dX9_isRight_16 ?_
  obtain ⟨hg1, h⟩ := q_guard h
  refine q_iald (q_shP17 w hp) (q_inb_in hg1) dX9_isRight_17 ?_
  refine q_iadd dX9_isRight_18 ?_
  refine q_aload_n 1 rfl rfl dX9_isRight_19 ?_
  refine q_getR (q_sh84 w) (by decide) (by decide) rfl lfX9_25 dX9_isRight_20 (r := p) (aF).1 ?_
  refine q_iload_n 2 rfl rfl dX9_isRight_23 ?_
  obtain ⟨r2, e3, h⟩ := q_bind h
  refine q_callV (ci := 5) (d := 2) (Mc := mX5_takes) (kc := 0) (nc := 0) [.int x1] okX5_takes (q_shP0 w hp) (by decide) rfl lmX9_79 inX5_takes seX5_takes rfl (Nat.le_of_ble_eq_true rfl) (Nat.le_of_ble_eq_true rfl) (Nat.le_refl _) (Nat.le_refl _) dX9_isRight_24 (q_L.deep (by decide) (kX5_takes (Q := fun r S' => r = some (.int r2) ∧ S' = S) w hp e3 ⟨rfl, rfl⟩)) (q_kI ?_)
  refine q_isub dX9_isRight_27 ?_
  refine q_istore_n [(3, .int ((((x1 * (20 : Int32)) + (12 : Int32)) + (S.2.1 (p + 17) x1.toNatClampNeg)) - r2)), (2, .int (x1 * (20 : Int32))), (0, .ref 84), (1, .int x1)] rfl (by decide) rfl dX9_isRight_28 ?_
  refine q_aload_n 2 rfl rfl dX9_isRight_29 ?_
  refine q_getR (q_sh84 w) (by decide) (by decide) rfl lfX9_25 dX9_isRight_30 (r := p) (aF).1 ?_
  refine q_iload_n 3 rfl rfl dX9_isRight_33 ?_
  refine q_aload_n 2 rfl rfl dX9_isRight_34 ?_
  refine q_getR (q_sh84 w) (by decide) (by decide) rfl lfX9_9 dX9_isRight_35 (r := 85) (q_wr84_3 w) ?_
  refine q_iload_n 1 rfl rfl dX9_isRight_38 ?_
  refine q_iload_n 0 rfl rfl dX9_isRight_39 ?_
  obtain ⟨r4, e5, h⟩ := q_bind h
  refine q_callV (ci := 5) (d := 2) (Mc := mX5_suits) (kc := 0) (nc := 0) [.int x1, .ref 85, .int (x1 * (20 : Int32)), .int ((((x1 * (20 : Int32)) + (12 : Int32)) + (S.2.1 (p + 17) x1.toNatClampNeg)) - r2)] okX5_suits (q_shP0 w hp) (by decide) rfl lmX9_83 inX5_suits seX5_suits rfl (Nat.le_of_ble_eq_true rfl) (Nat.le_of_ble_eq_true rfl) (Nat.le_refl _) (Nat.le_refl _) dX9_isRight_40 (q_L.deep (by decide) (kX5_suits (Q := fun r S' => r = some (.int (q_b r4)) ∧ S' = S) w hp (q_sh85 w) e5 ⟨rfl, rfl⟩)) (q_kI ?_)
  refine q_if_ne 48 (by decide) dX9_isRight_43 (fun c => ?_) (fun c => ?_)
  · have c := q_b_n.mp c; rw [q_if1 c] at h
    refine q_aload_n 2 rfl rfl dX9_isRight_48 ?_
    refine q_getR (q_sh84 w) (by decide) (by decide) rfl lfX9_40 dX9_isRight_49 (r := (p + 10)) (aF).2.2 ?_
    refine q_getRN (q_shP10 w hp) (by decide) (by decide) rfl lfX9_87 dX9_isRight_52 (r := (p + 11)) (q_wrP10_1 w hp) ?_
    refine q_iload_n 3 rfl rfl dX9_isRight_55 ?_
    obtain ⟨hg6, h⟩ := q_guard h
    refine q_iald (q_shP11 w hp) (q_inb_in hg6) dX9_isRight_56 ?_
    refine q_bipush (v := (34 : Int32)) (by decide) dX9_isRight_57 ?_
    refine q_icmp_ne 86 (by decide) dX9_isRight_59 (fun c => ?_) (fun c => ?_)
    · rw [if_neg c] at h
      refine q_iconst (v := (1 : Int32)) (by decide) dX9_isRight_86 ?_
      refine q_goto 91 (by decide) dX9_isRight_87 ?_
      obtain rfl := Option.some.inj h
      exact q_iret rfl (by decide) dX9_isRight_91 hQ
    · rw [if_pos c] at h
      refine q_aload_n 2 rfl rfl dX9_isRight_62 ?_
      refine q_getR (q_sh84 w) (by decide) (by decide) rfl lfX9_35 dX9_isRight_63 (r := (p + 1)) (aF).2.1 ?_
      refine q_aload_n 2 rfl rfl dX9_isRight_66 ?_
      refine q_getR (q_sh84 w) (by decide) (by decide) rfl lfX9_9 dX9_isRight_67 (r := 85) (q_wr84_3 w) ?_
      refine q_iload_n 0 rfl rfl dX9_isRight_70 ?_
      refine q_iconst (v := (2 : Int32)) (by decide) dX9_isRight_71 ?_
      refine q_iadd dX9_isRight_72 ?_
      obtain ⟨hg7, h⟩ := q_guard h
      refine q_bald (q_sh85 w) (q_inb_in hg7) dX9_isRight_73 ?_
      refine q_aload_n 2 rfl rfl dX9_isRight_74 ?_
      refine q_getR (q_sh84 w) (by decide) (by decide) rfl lfX9_9 dX9_isRight_75 (r := 85) (q_wr84_3 w) ?_
      refine q_iload_n 0 rfl rfl dX9_isRight_78 ?_
      obtain ⟨hg8, h⟩ := q_guard h
      refine q_bald (q_sh85 w) (q_inb_in hg8) dX9_isRight_79 ?_
      obtain ⟨r9, e10, h⟩ := q_bind h
      refine q_callV (ci := 0) (d := 2) (Mc := mX0_isElement) (kc := 0) (nc := 0) [.int (S.2.1 85 (((((x1 * (20 : Int32)) + (12 : Int32)) + (S.2.1 (p + 17) x1.toNatClampNeg)) - r2) + (2 : Int32)).toNatClampNeg), .int (S.2.1 85 ((((x1 * (20 : Int32)) + (12 : Int32)) + (S.2.1 (p + 17) x1.toNatClampNeg)) - r2).toNatClampNeg)] okX0_isElement (q_shP1 w hp) (by decide) rfl lmX9_90 inX0_isElement seX0_isElement rfl (Nat.le_of_ble_eq_true rfl) (Nat.le_of_ble_eq_true rfl) (Nat.le_refl _) (Nat.le_refl _) dX9_isRight_80 (q_L.deep (by decide) (kX0_isElement (Q := fun r S' => r = some (.int (q_b r9)) ∧ S' = S) w hp e10 ⟨rfl, rfl⟩)) (q_kI ?_)
      refine q_if_eq 90 (by decide) dX9_isRight_83 (fun c => ?_) (fun c => ?_)
      · have c := q_b_0.mp c; rw [q_if0 c] at h
        refine q_iconst (v := (0 : Int32)) (by decide) dX9_isRight_90 ?_
        obtain rfl := Option.some.inj h
        exact q_iret rfl (by decide) dX9_isRight_91 hQ
      · have c := q_b_n.mp c; rw [q_if1 c] at h
        refine q_iconst (v := (1 : Int32)) (by decide) dX9_isRight_86 ?_
        refine q_goto 91 (by decide) dX9_isRight_87 ?_
        obtain rfl := Option.some.inj h
        exact q_iret rfl (by decide) dX9_isRight_91 hQ
  · have c := q_b_0.mp c; rw [q_if0 c] at h
    refine q_iconst (v := (0 : Int32)) (by decide) dX9_isRight_46 ?_
    obtain rfl := Option.some.inj h
    exact q_iret rfl (by decide) dX9_isRight_47 hQ
set_option maxRecDepth 20000 in
theorem sX9_firstFault_119 {g : QG} {Q : Option Value → QS → Prop} {p : Nat} {y3 : Int32} {x : Int32 × QS} {z : (Int32 × QS) ⊕ (Int32 × QS)} (w : q_Wire x.2) (hp : q_pok p) (aF : q_aF x.2 p) (h : tX9_firstFault_119 p y3 x = some z) (hQ : (Sum.elim (fun r0 : Int32 × QS => Q (some (.int r0.1)) r0.2) (fun y : Int32 × QS => q_L g mX9_firstFault 5 0 0 Q 0 0 119 [(0, .ref 84), (3, .int y3), (4, .int y.1)] [] y.2) z)) : q_L g mX9_firstFault 5 0 0 Q 0 0 119 [(0, .ref 84), (3, .int y3), (4, .int x.1)] [] x.2 := by
  unfold tX9_firstFault_119 at h
  refine q_iload 2 rfl dX9_firstFault_119 ?_
  refine q_iload_n 1 rfl rfl dX9_firstFault_121 ?_
  refine q_icmp_ge 153 (by decide) dX9_firstFault_122 (fun c => ?_) (fun c => ?_)
  · rw [if_pos c] at h
    refine q_iconst (v := (-1 : Int32)) (by decide) dX9_firstFault_153 ?_
    cases h
    exact q_iret rfl rfl dX9_firstFault_154 hQ
  · rw [if_neg c] at h
    refine q_aload_n 0 rfl rfl dX9_firstFault_125 ?_
    refine q_getR (q_sh84 w) (by decide) (by decide) rfl lfX9_15 dX9_firstFault_126 (r := 86) (q_wr84_4 w) ?_
    refine q_iload 2 rfl dX9_firstFault_129 ?_
    obtain ⟨hg1, h⟩ := q_guard h
    refine q_zald (q_sh86 w) (q_inb_in hg1) dX9_firstFault_131 ?_
    refine q_if_eq 147 (by decide) dX9_firstFault_132 (fun c => ?_) (fun c => ?_)
    · rw [if_pos c] at h
      refine q_iinc (v := (x.1 + (1 : Int32))) 2 [(4, .int (x.1 + (1 : Int32))), (0, .ref 84), (3, .int y3)] (by decide) rfl (congrArg (fun t => x.1 + t) (by decide)) rfl dX9_firstFault_147 ?_
      refine q_goto 119 (by decide) dX9_firstFault_150 ?_
      refine q_sub [1, 2, 0] rfl ?_
      cases h
      exact hQ
    · rw [if_neg c] at h
      refine q_aload_n 0 rfl rfl dX9_firstFault_135 ?_
      refine q_iload 2 rfl dX9_firstFault_136 ?_
      obtain ⟨r2, e3, h⟩ := q_bind h
      refine q_callV (ci := 9) (d := 4) (Mc := mX9_isRight) (kc := 0) (nc := 0) [.int x.1] okX9_isRight (q_sh84 w) (by decide) rfl lmX9_61 inX9_isRight seX9_isRight rfl (Nat.le_of_ble_eq_true rfl) (Nat.le_of_ble_eq_true rfl) (Nat.le_refl _) (Nat.le_refl _) dX9_firstFault_138 (q_L.deep (by decide) (kX9_isRight (Q := fun r S' => r = some (.int (q_b r2)) ∧ S' = x.2) w hp (aF) e3 ⟨rfl, rfl⟩)) (q_kI ?_)
      refine q_if_ne 147 (by decide) dX9_firstFault_141 (fun c => ?_) (fun c => ?_)
      · have c := q_b_n.mp c; rw [q_if1 c] at h
        refine q_iinc (v := (x.1 + (1 : Int32))) 2 [(4, .int (x.1 + (1 : Int32))), (0, .ref 84), (3, .int y3)] (by decide) rfl (congrArg (fun t => x.1 + t) (by decide)) rfl dX9_firstFault_147 ?_
        refine q_goto 119 (by decide) dX9_firstFault_150 ?_
        refine q_sub [1, 2, 0] rfl ?_
        cases h
        exact hQ
      · have c := q_b_0.mp c; rw [q_if0 c] at h
        refine q_iload 2 rfl dX9_firstFault_144 ?_
        cases h
        exact q_iret rfl rfl dX9_firstFault_146 hQ
theorem lX9_firstFault_119 {g : QG} {Q : Option Value → QS → Prop} {p : Nat} {y3 : Int32} {r : Int32 × QS} (hp : q_pok p) (hQ : Q (some (.int r.1)) r.2) : ∀ (c : Nat) (x : Int32 × QS), q_Wire x.2 → q_aF x.2 p → q_it (tX9_firstFault_119 p y3) c x = some r → q_L g mX9_firstFault 5 0 0 Q 0 0 119 [(0, .ref 84), (3, .int y3), (4, .int x.1)] [] x.2 := by
  intro c
  induction c with
  | zero => intro x w aF h; cases h
  | succ c ih =>
    intro x w aF h
    simp only [q_it] at h
    cases hz : tX9_firstFault_119 p y3 x with
    | none => rw [hz] at h; cases h
    | some z =>
      rw [hz] at h
      refine sX9_firstFault_119 w hp aF hz ?_
      rcases z with z | y
      · cases h; exact hQ
      · have fz := fxtX9_firstFault_119 hz; exact ih y (w.fx fz) (aF.fx fz) h
theorem kX9_firstFault_119 {S : QS} {g : QG} {Q : Option Value → QS → Prop} {p : Nat} {y3 : Int32} {y4 : Int32} {r : Int32 × QS} (w : q_Wire S) (hp : q_pok p) (aF : q_aF S p) (h : fX9_firstFault_119 S p y3 y4 = some r) (hQ : Q (some (.int r.1)) r.2) : q_L g mX9_firstFault 5 0 0 Q 0 0 119 [(0, .ref 84), (3, .int y3), (4, .int y4)] [] S := by
  obtain ⟨c, hc⟩ := q_run_it h
  exact lX9_firstFault_119 hp hQ c (y4, S) w aF hc
set_option maxRecDepth 20000 in
theorem sX9_firstFault_73 {g : QG} {Q : Option Value → QS → Prop} {p : Nat} {y1 : Int32} {y2 : Int32} {y3 : Int32} {x : Int32 × Int32 × QS} {z : ((Int32 × QS) ⊕ (Int32 × QS)) ⊕ (Int32 × Int32 × QS)} (w : q_Wire x.2.2) (hp : q_pok p) (aF : q_aF x.2.2 p) (h : tX9_firstFault_73 p y1 y2 y3 x = some z) (hQ : (Sum.elim (fun r1 : (Int32 × QS) ⊕ (Int32 × QS) => (Sum.elim (fun r0 : Int32 × QS => Q (some (.int r0.1)) r0.2) (fun y : Int32 × QS => q_L g mX9_firstFault 5 0 0 Q 0 0 51 [(0, .ref 84), (1, .int y1), (2, .int y2), (3, .int y3), (4, .int y.1)] [] y.2) r1)) (fun y' : Int32 × Int32 × QS => q_L g mX9_firstFault 5 0 0 Q 0 0 73 [(0, .ref 84), (1, .int y1), (2, .int y2), (3, .int y3), (4, .int y'.1), (5, .int y'.2.1)] [] y'.2.2) z)) : q_L g mX9_firstFault 5 0 0 Q 0 0 73 [(0, .ref 84), (1, .int y1), (2, .int y2), (3, .int y3), (4, .int x.1), (5, .int x.2.1)] [] x.2.2 := by
  unfold tX9_firstFault_73 at h
  refine q_iload 5 rfl dX9_firstFault_73 ?_
  refine q_iload_n 3 rfl rfl dX9_firstFault_75 ?_
  refine q_icmp_ge 110 (by decide) dX9_firstFault_76 (fun c => ?_) (fun c => ?_)
  · rw [if_pos c] at h
    refine q_iinc (v := (x.1 + (1 : Int32))) 4 [(4, .int (x.1 + (1 : Int32))), (0, .ref 84), (1, .int y1), (2, .int y2), (3, .int y3), (5, .int x.2.1)] (by decide) rfl (congrArg (fun t => x.1 + t) (by decide)) rfl dX9_firstFault_110 ?_
    refine q_goto 51 (by decide) dX9_firstFault_113 ?_
    refine q_sub [1, 2, 3, 4, 0] rfl ?_
    cases h
    exact hQ
  · rw [if_neg c] at h
    refine q_aload_n 0 rfl rfl dX9_firstFault_79 ?_
    refine q_getR (q_sh84 w) (by decide) (by decide) rfl lfX9_19 dX9_firstFault_80 (r := 87) (q_wr84_5 w) ?_
    refine q_iload 5 rfl dX9_firstFault_83 ?_
    obtain ⟨hg4, h⟩ := q_guard h
    refine q_zald (q_sh87 w) (q_inb_in hg4) dX9_firstFault_85 ?_
    refine q_if_eq 104 (by decide) dX9_firstFault_86 (fun c => ?_) (fun c => ?_)
    · rw [if_pos c] at h
      refine q_iinc (v := (x.2.1 + (1 : Int32))) 5 [(5, .int (x.2.1 + (1 : Int32))), (0, .ref 84), (1, .int y1), (2, .int y2), (3, .int y3), (4, .int x.1)] (by decide) rfl (congrArg (fun t => x.2.1 + t) (by decide)) rfl dX9_firstFault_104 ?_
      refine q_goto 73 (by decide) dX9_firstFault_107 ?_
      refine q_sub [1, 2, 3, 4, 5, 0] rfl ?_
      cases h
      exact hQ
    · rw [if_neg c] at h
      refine q_aload_n 0 rfl rfl dX9_firstFault_89 ?_
      refine q_getR (q_sh84 w) (by decide) (by decide) rfl lfX9_19 dX9_firstFault_90 (r := 87) (q_wr84_5 w) ?_
      refine q_iload 5 rfl dX9_firstFault_93 ?_
      refine q_iconst (v := (0 : Int32)) (by decide) dX9_firstFault_95 ?_
      obtain ⟨hg5, h⟩ := q_guard h
      refine q_zast (q_sh87 w) (q_inb_in hg5) dX9_firstFault_96 ?_
      obtain ⟨S6, e7, h⟩ := q_bindS h
      refine q_st e7 ?_
      have fx8 : q_Fx x.2.2 S6 := e7 ▸ q_Fx.sI (q_Fx.rf x.2.2)
      refine q_aload_n 0 rfl rfl dX9_firstFault_97 ?_
      refine q_iload 5 rfl dX9_firstFault_98 ?_
      refine q_iload_n 1 rfl rfl dX9_firstFault_100 ?_
      obtain ⟨r9, e10, h⟩ := q_bind h
      refine q_callV (ci := 9) (d := 4) (Mc := mX9_spread) (kc := 0) (nc := 0) [.int x.2.1, .int y1] okX9_spread (q_sh84 (w.fx fx8)) (by decide) rfl lmX9_57 inX9_spread seX9_spread rfl (Nat.le_of_ble_eq_true rfl) (Nat.le_of_ble_eq_true rfl) (Nat.le_refl _) (Nat.le_refl _) dX9_firstFault_101 (q_L.deep (by decide) (kX9_spread (Q := fun r S' => r = none ∧ S' = r9) (w.fx fx8) hp (aF.fx fx8) e10 ⟨rfl, rfl⟩)) (q_kV ?_)
      have fx11 : q_Fx x.2.2 r9 := q_Fx.tr (fx8) (fxX9_spread e10)
      refine q_iinc (v := (x.2.1 + (1 : Int32))) 5 [(5, .int (x.2.1 + (1 : Int32))), (0, .ref 84), (1, .int y1), (2, .int y2), (3, .int y3), (4, .int x.1)] (by decide) rfl (congrArg (fun t => x.2.1 + t) (by decide)) rfl dX9_firstFault_104 ?_
      refine q_goto 73 (by decide) dX9_firstFault_107 ?_
      refine q_sub [1, 2, 3, 4, 5, 0] rfl ?_
      cases h
      exact hQ
theorem lX9_firstFault_73 {g : QG} {Q : Option Value → QS → Prop} {p : Nat} {y1 : Int32} {y2 : Int32} {y3 : Int32} {r : (Int32 × QS) ⊕ (Int32 × QS)} (hp : q_pok p) (hQ : (Sum.elim (fun r0 : Int32 × QS => Q (some (.int r0.1)) r0.2) (fun y : Int32 × QS => q_L g mX9_firstFault 5 0 0 Q 0 0 51 [(0, .ref 84), (1, .int y1), (2, .int y2), (3, .int y3), (4, .int y.1)] [] y.2) r)) : ∀ (c : Nat) (x : Int32 × Int32 × QS), q_Wire x.2.2 → q_aF x.2.2 p → q_it (tX9_firstFault_73 p y1 y2 y3) c x = some r → q_L g mX9_firstFault 5 0 0 Q 0 0 73 [(0, .ref 84), (1, .int y1), (2, .int y2), (3, .int y3), (4, .int x.1), (5, .int x.2.1)] [] x.2.2 := by
  intro c
  induction c with
  | zero => intro x w aF h; cases h
  | succ c ih =>
    intro x w aF h
    simp only [q_it] at h
    cases hz : tX9_firstFault_73 p y1 y2 y3 x with
    | none => rw [hz] at h; cases h
    | some z =>
      rw [hz] at h
      refine sX9_firstFault_73 w hp aF hz ?_
      rcases z with z | y
      · cases h; exact hQ
      · have fz := fxtX9_firstFault_73 hz; exact ih y (w.fx fz) (aF.fx fz) h
theorem usX9_firstFault_73 {S : QS} {g : QG} {Q : Option Value → QS → Prop} {p : Nat} {y1 : Int32} {y2 : Int32} {y3 : Int32} {y4 : Int32} {y5 : Int32} {r : (Int32 × QS) ⊕ (Int32 × QS)} (w : q_Wire S) (hp : q_pok p) (aF : q_aF S p) (h : uX9_firstFault_73 S p y1 y2 y3 y4 y5 = some r) (hQ : (Sum.elim (fun r0 : Int32 × QS => Q (some (.int r0.1)) r0.2) (fun y : Int32 × QS => q_L g mX9_firstFault 5 0 0 Q 0 0 51 [(0, .ref 84), (1, .int y1), (2, .int y2), (3, .int y3), (4, .int y.1)] [] y.2) r)) : q_L g mX9_firstFault 5 0 0 Q 0 0 73 [(0, .ref 84), (1, .int y1), (2, .int y2), (3, .int y3), (4, .int y4), (5, .int y5)] [] S := by
  obtain ⟨c, hc⟩ := q_run_it h
  exact lX9_firstFault_73 hp hQ c (y4, y5, S) w aF hc
set_option maxRecDepth 20000 in
theorem sX9_firstFault_51 {g : QG} {Q : Option Value → QS → Prop} {p : Nat} {y1 : Int32} {y2 : Int32} {y3 : Int32} {x : Int32 × QS} {z : (Int32 × QS) ⊕ (Int32 × QS)} (w : q_Wire x.2) (hp : q_pok p) (aF : q_aF x.2 p) (h : tX9_firstFault_51 p y1 y2 y3 x = some z) (hQ : (Sum.elim (fun r0 : Int32 × QS => Q (some (.int r0.1)) r0.2) (fun y : Int32 × QS => q_L g mX9_firstFault 5 0 0 Q 0 0 51 [(0, .ref 84), (1, .int y1), (2, .int y2), (3, .int y3), (4, .int y.1)] [] y.2) z)) : q_L g mX9_firstFault 5 0 0 Q 0 0 51 [(0, .ref 84), (1, .int y1), (2, .int y2), (3, .int y3), (4, .int x.1)] [] x.2 := by
  unfold tX9_firstFault_51 at h
  refine q_iload 4 rfl dX9_firstFault_51 ?_
  refine q_ldc lkX9_52 dX9_firstFault_53 ?_
  refine q_icmp_ge 116 (by decide) dX9_firstFault_55 (fun c => ?_) (fun c => ?_)
  · rw [if_pos c] at h
    refine q_iload_n 2 rfl rfl dX9_firstFault_116 ?_
    refine q_istore [(4, .int y2), (0, .ref 84), (1, .int y1), (2, .int y2), (3, .int y3)] (by decide) rfl dX9_firstFault_117 ?_
    refine q_sub [1, 4, 0] rfl ?_
    obtain ⟨r12, e13, h⟩ := q_bind h
    cases h
    exact kX9_firstFault_119 w hp (aF) e13 hQ
  · rw [if_neg c] at h
    refine q_aload_n 0 rfl rfl dX9_firstFault_58 ?_
    refine q_getI (q_sh84 w) (by decide) (by decide) rfl lfX9_53 dX9_firstFault_59 ?_
    refine q_if_eq 116 (by decide) dX9_firstFault_62 (fun c => ?_) (fun c => ?_)
    · rw [if_pos c] at h
      refine q_iload_n 2 rfl rfl dX9_firstFault_116 ?_
      refine q_istore [(4, .int y2), (0, .ref 84), (1, .int y1), (2, .int y2), (3, .int y3)] (by decide) rfl dX9_firstFault_117 ?_
      refine q_sub [1, 4, 0] rfl ?_
      obtain ⟨r14, e15, h⟩ := q_bind h
      cases h
      exact kX9_firstFault_119 w hp (aF) e15 hQ
    · rw [if_neg c] at h
      refine q_aload_n 0 rfl rfl dX9_firstFault_65 ?_
      refine q_iconst (v := (0 : Int32)) (by decide) dX9_firstFault_66 ?_
      refine q_putI (q_sh84 w) (by decide) (by decide) rfl rfl ⟨rfl, rfl⟩ lfX9_53 dX9_firstFault_67 ?_
      obtain ⟨S16, e17, h⟩ := q_bindS h
      refine q_st e17 ?_
      have fx18 : q_Fx x.2 S16 := e17 ▸ q_Fx.sI (q_Fx.rf x.2)
      refine q_iload_n 2 rfl rfl dX9_firstFault_70 ?_
      refine q_istore [(5, .int y2), (0, .ref 84), (1, .int y1), (2, .int y2), (3, .int y3), (4, .int x.1)] (by decide) rfl dX9_firstFault_71 ?_
      refine q_sub [1, 2, 3, 4, 5, 0] rfl ?_
      exact usX9_firstFault_73 (w.fx fx18) hp (aF.fx fx18) h hQ
theorem lX9_firstFault_51 {g : QG} {Q : Option Value → QS → Prop} {p : Nat} {y1 : Int32} {y2 : Int32} {y3 : Int32} {r : Int32 × QS} (hp : q_pok p) (hQ : Q (some (.int r.1)) r.2) : ∀ (c : Nat) (x : Int32 × QS), q_Wire x.2 → q_aF x.2 p → q_it (tX9_firstFault_51 p y1 y2 y3) c x = some r → q_L g mX9_firstFault 5 0 0 Q 0 0 51 [(0, .ref 84), (1, .int y1), (2, .int y2), (3, .int y3), (4, .int x.1)] [] x.2 := by
  intro c
  induction c with
  | zero => intro x w aF h; cases h
  | succ c ih =>
    intro x w aF h
    simp only [q_it] at h
    cases hz : tX9_firstFault_51 p y1 y2 y3 x with
    | none => rw [hz] at h; cases h
    | some z =>
      rw [hz] at h
      refine sX9_firstFault_51 w hp aF hz ?_
      rcases z with z | y
      · cases h; exact hQ
      · have fz := fxtX9_firstFault_51 hz; exact ih y (w.fx fz) (aF.fx fz) h
theorem kX9_firstFault_51 {S : QS} {g : QG} {Q : Option Value → QS → Prop} {p : Nat} {y1 : Int32} {y2 : Int32} {y3 : Int32} {y4 : Int32} {r : Int32 × QS} (w : q_Wire S) (hp : q_pok p) (aF : q_aF S p) (h : fX9_firstFault_51 S p y1 y2 y3 y4 = some r) (hQ : Q (some (.int r.1)) r.2) : q_L g mX9_firstFault 5 0 0 Q 0 0 51 [(0, .ref 84), (1, .int y1), (2, .int y2), (3, .int y3), (4, .int y4)] [] S := by
  obtain ⟨c, hc⟩ := q_run_it h
  exact lX9_firstFault_51 hp hQ c (y4, S) w aF hc
set_option maxRecDepth 20000 in
theorem sX9_firstFault_23 {g : QG} {Q : Option Value → QS → Prop} {p : Nat} {y1 : Int32} {y2 : Int32} {y3 : Int32} {x : Int32 × QS} {z : (Int32 × QS) ⊕ (Int32 × QS)} (w : q_Wire x.2) (hp : q_pok p) (aF : q_aF x.2 p) (h : tX9_firstFault_23 p y1 y2 y3 x = some z) (hQ : (Sum.elim (fun r0 : Int32 × QS => Q (some (.int r0.1)) r0.2) (fun y : Int32 × QS => q_L g mX9_firstFault 5 0 0 Q 0 0 23 [(0, .ref 84), (1, .int y1), (2, .int y2), (3, .int y3), (4, .int y.1)] [] y.2) z)) : q_L g mX9_firstFault 5 0 0 Q 0 0 23 [(0, .ref 84), (1, .int y1), (2, .int y2), (3, .int y3), (4, .int x.1)] [] x.2 := by
  unfold tX9_firstFault_23 at h
  refine q_iload 4 rfl dX9_firstFault_23 ?_
  refine q_iload_n 3 rfl rfl dX9_firstFault_25 ?_
  refine q_icmp_ge 43 (by decide) dX9_firstFault_26 (fun c => ?_) (fun c => ?_)
  · rw [if_pos c] at h
    refine q_aload_n 0 rfl rfl dX9_firstFault_43 ?_
    refine q_iload_n 1 rfl rfl dX9_firstFault_44 ?_
    obtain ⟨r19, e20, h⟩ := q_bind h
    refine q_callV (ci := 9) (d := 4) (Mc := mX9_enter) (kc := 0) (nc := 0) [.int y1] okX9_enter (q_sh84 w) (by decide) rfl lmX9_48 inX9_enter seX9_enter rfl (Nat.le_of_ble_eq_true rfl) (Nat.le_of_ble_eq_true rfl) (Nat.le_refl _) (Nat.le_refl _) dX9_firstFault_45 (q_L.deep (by decide) (kX9_enter (Q := fun r S' => r = none ∧ S' = r19) w hp (aF) e20 ⟨rfl, rfl⟩)) (q_kV ?_)
    have fx21 : q_Fx x.2 r19 := q_Fx.tr (q_Fx.rf x.2) (fxX9_enter e20)
    refine q_iconst (v := (0 : Int32)) (by decide) dX9_firstFault_48 ?_
    refine q_istore [(4, .int (0 : Int32)), (0, .ref 84), (1, .int y1), (2, .int y2), (3, .int y3)] (by decide) rfl dX9_firstFault_49 ?_
    refine q_sub [1, 2, 3, 4, 0] rfl ?_
    obtain ⟨r22, e23, h⟩ := q_bind h
    cases h
    exact kX9_firstFault_51 (w.fx fx21) hp (aF.fx fx21) e23 hQ
  · rw [if_neg c] at h
    refine q_aload_n 0 rfl rfl dX9_firstFault_29 ?_
    refine q_getR (q_sh84 w) (by decide) (by decide) rfl lfX9_15 dX9_firstFault_30 (r := 86) (q_wr84_4 w) ?_
    refine q_iload 4 rfl dX9_firstFault_33 ?_
    refine q_iconst (v := (0 : Int32)) (by decide) dX9_firstFault_35 ?_
    obtain ⟨hg24, h⟩ := q_guard h
    refine q_zast (q_sh86 w) (q_inb_in hg24) dX9_firstFault_36 ?_
    obtain ⟨S25, e26, h⟩ := q_bindS h
    refine q_st e26 ?_
    have fx27 : q_Fx x.2 S25 := e26 ▸ q_Fx.sI (q_Fx.rf x.2)
    refine q_iinc (v := (x.1 + (1 : Int32))) 4 [(4, .int (x.1 + (1 : Int32))), (0, .ref 84), (1, .int y1), (2, .int y2), (3, .int y3)] (by decide) rfl (congrArg (fun t => x.1 + t) (by decide)) rfl dX9_firstFault_37 ?_
    refine q_goto 23 (by decide) dX9_firstFault_40 ?_
    refine q_sub [1, 2, 3, 4, 0] rfl ?_
    cases h
    exact hQ
theorem lX9_firstFault_23 {g : QG} {Q : Option Value → QS → Prop} {p : Nat} {y1 : Int32} {y2 : Int32} {y3 : Int32} {r : Int32 × QS} (hp : q_pok p) (hQ : Q (some (.int r.1)) r.2) : ∀ (c : Nat) (x : Int32 × QS), q_Wire x.2 → q_aF x.2 p → q_it (tX9_firstFault_23 p y1 y2 y3) c x = some r → q_L g mX9_firstFault 5 0 0 Q 0 0 23 [(0, .ref 84), (1, .int y1), (2, .int y2), (3, .int y3), (4, .int x.1)] [] x.2 := by
  intro c
  induction c with
  | zero => intro x w aF h; cases h
  | succ c ih =>
    intro x w aF h
    simp only [q_it] at h
    cases hz : tX9_firstFault_23 p y1 y2 y3 x with
    | none => rw [hz] at h; cases h
    | some z =>
      rw [hz] at h
      refine sX9_firstFault_23 w hp aF hz ?_
      rcases z with z | y
      · cases h; exact hQ
      · have fz := fxtX9_firstFault_23 hz; exact ih y (w.fx fz) (aF.fx fz) h
theorem kX9_firstFault_23 {S : QS} {g : QG} {Q : Option Value → QS → Prop} {p : Nat} {y1 : Int32} {y2 : Int32} {y3 : Int32} {y4 : Int32} {r : Int32 × QS} (w : q_Wire S) (hp : q_pok p) (aF : q_aF S p) (h : fX9_firstFault_23 S p y1 y2 y3 y4 = some r) (hQ : Q (some (.int r.1)) r.2) : q_L g mX9_firstFault 5 0 0 Q 0 0 23 [(0, .ref 84), (1, .int y1), (2, .int y2), (3, .int y3), (4, .int y4)] [] S := by
  obtain ⟨c, hc⟩ := q_run_it h
  exact lX9_firstFault_23 hp hQ c (y4, S) w aF hc
set_option maxRecDepth 20000 in
theorem kX9_firstFault {S : QS} {g : QG} {Q : Option Value → QS → Prop} {p : Nat} {x1 : Int32} {r : Int32 × QS} (w : q_Wire S) (hp : q_pok p) (aF : q_aF S p) (h : fX9_firstFault S p x1 = some r) (hQ : Q (some (.int r.1)) r.2) : q_M g mX9_firstFault 5 0 0 [.ref 84, .int x1] S Q := by
  unfold fX9_firstFault at h
  show q_L g mX9_firstFault 5 0 0 Q 0 0 0 [(0, .ref 84), (1, .int x1)] [] S
  refine q_aload_n 0 rfl rfl dX9_firstFault_0 ?_
  refine q_getR (q_sh84 w) (by decide) (by decide) rfl lfX9_25 dX9_firstFault_1 (r := p) (aF).1 ?_
  refine q_getRN (q_shP0 w hp) (by decide) (by decide) rfl lfX9_41 dX9_firstFault_4 (r := (p + 29)) (q_wrP0_10 w hp) ?_
  refine q_iload_n 1 rfl rfl dX9_firstFault_7 ?_
  obtain ⟨hg28, h⟩ := q_guard h
  refine q_iald (q_shP29 w hp) (q_inb_in hg28) dX9_firstFault_8 ?_
  refine q_istore_n [(2, .int (S.2.1 (p + 29) x1.toNatClampNeg)), (0, .ref 84), (1, .int x1)] rfl (by decide) rfl dX9_firstFault_9 ?_
  refine q_aload_n 1 rfl rfl dX9_firstFault_10 ?_
  refine q_getR (q_sh84 w) (by decide) (by decide) rfl lfX9_25 dX9_firstFault_11 (r := p) (aF).1 ?_
  refine q_getRN (q_shP0 w hp) (by decide) (by decide) rfl lfX9_45 dX9_firstFault_14 (r := (p + 30)) (q_wrP0_11 w hp) ?_
  refine q_iload_n 2 rfl rfl dX9_firstFault_17 ?_
  obtain ⟨hg29, h⟩ := q_guard h
  refine q_iald (q_shP30 w hp) (q_inb_in hg29) dX9_firstFault_18 ?_
  refine q_istore_n [(3, .int (S.2.1 (p + 30) x1.toNatClampNeg)), (2, .int (S.2.1 (p + 29) x1.toNatClampNeg)), (0, .ref 84), (1, .int x1)] rfl (by decide) rfl dX9_firstFault_19 ?_
  refine q_iload_n 1 rfl rfl dX9_firstFault_20 ?_
  refine q_istore [(4, .int (S.2.1 (p + 29) x1.toNatClampNeg)), (3, .int (S.2.1 (p + 30) x1.toNatClampNeg)), (2, .int (S.2.1 (p + 29) x1.toNatClampNeg)), (0, .ref 84), (1, .int x1)] (by decide) rfl dX9_firstFault_21 ?_
  refine q_sub [3, 4, 2, 1, 0] rfl ?_
  exact kX9_firstFault_23 w hp (aF) h hQ
