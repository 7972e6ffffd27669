set_option maxRecDepth 20000 in
theorem kX3_begin {S : QS} {g : QG} {Q : Option Value → QS → Prop} {p : Nat}  {r : QS} (w : q_Wire S) (hp : q_pok p) (h : fX3_begin S p = some r) (hQ : Q none r) : q_M g mX3_begin 0 0 0 [.ref 81, .ref p] S Q := by
  unfold fX3_begin at h
  show q_L g mX3_begin 0 0 0 Q 0 0 0 [(0, .ref 81), (1, .ref p)] [] S
  refine q_aload_n 0 rfl rfl dX3_begin_0 ?_
  refine q_aload_n 1 rfl rfl dX3_begin_1 ?_
  refine q_putR (q_sh81 w) (by decide) (by decide) rfl rfl lfX3_19 dX3_begin_2 ?_
  obtain ⟨S1, e2, h⟩ := q_bindS h
  refine q_st e2 ?_
  have w4 : q_Wire S1 := e2 ▸ q_Wire.sR w (by decide)
  refine q_aload_n 0 rfl rfl dX3_begin_5 ?_
  refine q_aload_n 1 rfl rfl dX3_begin_6 ?_
  refine q_getRN (q_shP0 w4 hp) (by decide) (by decide) rfl lfX3_23 dX3_begin_7 (r := (p + 10)) (q_wrP0_1 w4 hp) ?_
  refine q_putR (q_sh81 w4) (by decide) (by decide) rfl rfl lfX3_29 dX3_begin_10 ?_
  obtain ⟨S5, e6, h⟩ := q_bindS h
  refine q_st e6 ?_
  have w8 : q_Wire S5 := e6 ▸ q_Wire.sR w4 (by decide)
  obtain rfl := Option.some.inj h
  exact q_vret rfl dX3_begin_13 hQ
set_option maxRecDepth 20000 in
theorem kX3_arrive {S : QS} {g : QG} {Q : Option Value → QS → Prop} {p : Nat} {x1 : Int32} {x2 : Int32} {r : QS} (w : q_Wire S) (hp : q_pok p) (aH : q_aH S p) (h : fX3_arrive S p x1 x2 = some r) (hQ : Q none r) : q_M g mX3_arrive 0 0 0 [.ref 81, .int x1, .int x2] S Q := by
  unfold fX3_arrive at h
  show q_L g mX3_arrive 0 0 0 Q 0 0 0 [(0, .ref 81), (1, .int x1), (2, .int x2)] [] S
  refine q_iload_n 1 rfl rfl dX3_arrive_0 ?_
  refine q_if_lt 54 (by decide) dX3_arrive_1 (fun c => ?_) (fun c => ?_)
  · rw [if_pos c] at h
    obtain rfl := Option.some.inj h
    exact q_vret rfl dX3_arrive_54 hQ
  · rw [if_neg c] at h
    refine q_iload_n 1 rfl rfl dX3_arrive_4 ?_
    refine q_aload_n 0 rfl rfl dX3_arrive_5 ?_
    refine q_getR (q_sh81 w) (by decide) (by decide) rfl lfX3_29 dX3_arrive_6 (r := (p + 10)) (aH).2 ?_
    refine q_getIN (q_shP10 w hp) (by decide) (by decide) rfl lfX3_103 dX3_arrive_9 ?_
    refine q_icmp_ge 54 (by decide) dX3_arrive_12 (fun c => ?_) (fun c => ?_)
    · rw [if_pos c] at h
      obtain rfl := Option.some.inj h
      exact q_vret rfl dX3_arrive_54 hQ
    · rw [if_neg c] at h
      refine q_aload_n 0 rfl rfl dX3_arrive_15 ?_
      refine q_getR (q_sh81 w) (by decide) (by decide) rfl lfX3_9 dX3_arrive_16 (r := 82) (q_wr81_2 w) ?_
      refine q_iload_n 1 rfl rfl dX3_arrive_19 ?_
      obtain ⟨hg1, h⟩ := q_guard h
      refine q_iald (q_sh82 w) (q_inb_in hg1) dX3_arrive_20 ?_
      refine q_iload_n 2 rfl rfl dX3_arrive_21 ?_
      refine q_ior dX3_arrive_22 ?_
      refine q_aload_n 0 rfl rfl dX3_arrive_23 ?_
      refine q_getR (q_sh81 w) (by decide) (by decide) rfl lfX3_9 dX3_arrive_24 (r := 82) (q_wr81_2 w) ?_
      refine q_iload_n 1 rfl rfl dX3_arrive_27 ?_
      obtain ⟨hg2, h⟩ := q_guard h
      refine q_iald (q_sh82 w) (q_inb_in hg2) dX3_arrive_28 ?_
      refine q_icmp_eq 54 (by decide) dX3_arrive_29 (fun c => ?_) (fun c => ?_)
      · rw [if_pos c] at h
        obtain rfl := Option.some.inj h
        exact q_vret rfl dX3_arrive_54 hQ
      · rw [if_neg c] at h
        refine q_aload_n 0 rfl rfl dX3_arrive_32 ?_
        refine q_getR (q_sh81 w) (by decide) (by decide) rfl lfX3_9 dX3_arrive_33 (r := 82) (q_wr81_2 w) ?_
        refine q_iload_n 1 rfl rfl dX3_arrive_36 ?_
        refine q_dup2 rfl rfl dX3_arrive_37 ?_
        obtain ⟨hg3, h⟩ := q_guard h
        refine q_iald (q_sh82 w) (q_inb_in hg3) dX3_arrive_38 ?_
        refine q_iload_n 2 rfl rfl dX3_arrive_39 ?_
        refine q_ior dX3_arrive_40 ?_
        obtain ⟨hg4, h⟩ := q_guard h
        refine q_iast (q_sh82 w) (q_inb_in hg4) dX3_arrive_41 ?_
        obtain ⟨S5, e6, h⟩ := q_bindS h
        refine q_st e6 ?_
        have fx7 : q_Fx S S5 := e6 ▸ q_Fx.sI (q_Fx.rf S)
        refine q_aload_n 0 rfl rfl dX3_arrive_42 ?_
        refine q_getR (q_sh81 (w.fx fx7)) (by decide) (by decide) rfl lfX3_15 dX3_arrive_43 (r := 83) (q_wr81_3 (w.fx fx7)) ?_
        refine q_iload_n 1 rfl rfl dX3_arrive_46 ?_
        refine q_iconst (v := (1 : Int32)) (by decide) dX3_arrive_47 ?_
        obtain ⟨hg8, h⟩ := q_guard h
        refine q_zast (q_sh83 (w.fx fx7)) (q_inb_in hg8) dX3_arrive_48 ?_
        obtain ⟨S9, e10, h⟩ := q_bindS h
        refine q_st e10 ?_
        have fx11 : q_Fx S S9 := e10 ▸ q_Fx.sI (fx7)
        refine q_aload_n 0 rfl rfl dX3_arrive_49 ?_
        refine q_iconst (v := (1 : Int32)) (by decide) dX3_arrive_50 ?_
        refine q_putI (q_sh81 (w.fx fx11)) (by decide) (by decide) rfl rfl ⟨rfl, rfl⟩ lfX3_47 dX3_arrive_51 ?_
        obtain ⟨S12, e13, h⟩ := q_bindS h
        refine q_st e13 ?_
        have fx14 : q_Fx S S12 := e13 ▸ q_Fx.sI (fx11)
        obtain rfl := Option.some.inj h
        exact q_vret rfl dX3_arrive_54 hQ
set_option maxRecDepth 20000 in
theorem sX3_goodOf_29 {S : QS} {g : QG} {Q : Option Value → QS → Prop} {p : Nat} {y1 : Int32} {y3 : Int32} {x : Int32 × Int32} {z : (Int32) ⊕ (Int32 × Int32)} (w : q_Wire S) (hp : q_pok p) (aH : q_aH S p) (h : tX3_goodOf_29 S p y1 y3 x = some z) (hQ : (Sum.elim (fun r0 : Int32 => Q (some (.int r0)) S) (fun y : Int32 × Int32 => q_L g mX3_goodOf 1 0 0 Q 0 0 29 [(0, .ref 81), (1, .int y1), (3, .int y3), (4, .int y.1), (5, .int y.2)] [] S) z)) : q_L g mX3_goodOf 1 0 0 Q 0 0 29 [(0, .ref 81), (1, .int y1), (3, .int y3), (4, .int x.1), (5, .int x.2)] [] S := by
  unfold tX3_goodOf_29 at h
  refine q_iload 4 rfl dX3_goodOf_29 ?_
  refine q_iload_n 2 rfl rfl dX3_goodOf_31 ?_
  refine q_icmp_gt 64 (by decide) dX3_goodOf_32 (fun c => ?_) (fun c => ?_)
  · rw [if_pos c] at h
    refine q_iload 3 rfl dX3_goodOf_64 ?_
    cases h
    exact q_iret rfl rfl dX3_goodOf_66 hQ
  · rw [if_neg c] at h
    refine q_iload 4 rfl dX3_goodOf_35 ?_
    refine q_bipush (v := (8 : Int32)) (by decide) dX3_goodOf_37 ?_
    refine q_icmp_gt 64 (by decide) dX3_goodOf_39 (fun c => ?_) (fun c => ?_)
    · rw [if_pos c] at h
      refine q_iload 3 rfl dX3_goodOf_64 ?_
      cases h
      exact q_iret rfl rfl dX3_goodOf_66 hQ
    · rw [if_neg c] at h
      refine q_iload 3 rfl dX3_goodOf_42 ?_
      refine q_aload_n 0 rfl rfl dX3_goodOf_44 ?_
      refine q_getR (q_sh81 w) (by decide) (by decide) rfl lfX3_9 dX3_goodOf_45 (r := 82) (q_wr81_2 w) ?_
      refine q_iload_n 1 rfl rfl dX3_goodOf_48 ?_
      obtain ⟨hg1, h⟩ := q_guard h
      refine q_iald (q_sh82 w) (q_inb_in hg1) dX3_goodOf_49 ?_
      refine q_iconst (v := (1 : Int32)) (by decide) dX3_goodOf_50 ?_
      refine q_iload 4 rfl dX3_goodOf_51 ?_
      refine q_ishl dX3_goodOf_53 ?_
      refine q_iand dX3_goodOf_54 ?_
      refine q_ior dX3_goodOf_55 ?_
      refine q_istore [(4, .int (x.1 ||| ((S.2.1 82 y1.toNatClampNeg) &&& ((1 : Int32) <<< (x.2 &&& 31))))), (0, .ref 81), (1, .int y1), (3, .int y3), (5, .int x.2)] (by decide) rfl dX3_goodOf_56 ?_
      refine q_iinc (v := (x.2 + (1 : Int32))) 4 [(5, .int (x.2 + (1 : Int32))), (4, .int (x.1 ||| ((S.2.1 82 y1.toNatClampNeg) &&& ((1 : Int32) <<< (x.2 &&& 31))))), (0, .ref 81), (1, .int y1), (3, .int y3)] (by decide) rfl (congrArg (fun t => x.2 + t) (by decide)) rfl dX3_goodOf_58 ?_
      refine q_goto 29 (by decide) dX3_goodOf_61 ?_
      refine q_sub [2, 3, 4, 1, 0] rfl ?_
      cases h
      exact hQ
theorem lX3_goodOf_29 {S : QS} {g : QG} {Q : Option Value → QS → Prop} {p : Nat} {y1 : Int32} {y3 : Int32} {r : Int32} (w : q_Wire S) (hp : q_pok p) (aH : q_aH S p) (hQ : Q (some (.int r)) S) : ∀ (c : Nat) (x : Int32 × Int32), q_it (tX3_goodOf_29 S p y1 y3) c x = some r → q_L g mX3_goodOf 1 0 0 Q 0 0 29 [(0, .ref 81), (1, .int y1), (3, .int y3), (4, .int x.1), (5, .int x.2)] [] S := by
  intro c
  induction c with
  | zero => intro x  h; cases h
  | succ c ih =>
    intro x  h
    simp only [q_it] at h
    cases hz : tX3_goodOf_29 S p y1 y3 x with
    | none => rw [hz] at h; cases h
    | some z =>
      rw [hz] at h
      refine sX3_goodOf_29 w hp aH hz ?_
      rcases z with z | y
      · cases h; exact hQ
      · exact ih y  h
theorem kX3_goodOf_29 {S : QS} {g : QG} {Q : Option Value → QS → Prop} {p : Nat} {y1 : Int32} {y3 : Int32} {y4 : Int32} {y5 : Int32} {r : Int32} (w : q_Wire S) (hp : q_pok p) (aH : q_aH S p) (h : fX3_goodOf_29 S p y1 y3 y4 y5 = some r) (hQ : Q (some (.int r)) S) : q_L g mX3_goodOf 1 0 0 Q 0 0 29 [(0, .ref 81), (1, .int y1), (3, .int y3), (4, .int y4), (5, .int y5)] [] S := by
  obtain ⟨c, hc⟩ := q_run_it h
  exact lX3_goodOf_29 w hp aH hQ c (y4, y5)  hc
set_option maxRecDepth 20000 in
theorem kX3_goodOf {S : QS} {g : QG} {Q : Option Value → QS → Prop} {p : Nat} {x1 : Int32} {r : Int32} (w : q_Wire S) (hp : q_pok p) (aH : q_aH S p) (h : fX3_goodOf S p x1 = some r) (hQ : Q (some (.int r)) S) : q_M g mX3_goodOf 1 0 0 [.ref 81, .int x1] S Q := by
  unfold fX3_goodOf at h
  show q_L g mX3_goodOf 1 0 0 Q 0 0 0 [(0, .ref 81), (1, .int x1)] [] S
  refine q_aload_n 0 rfl rfl dX3_goodOf_0 ?_
  refine q_getR (q_sh81 w) (by decide) (by decide) rfl lfX3_19 dX3_goodOf_1 (r := p) (aH).1 ?_
  refine q_iload_n 1 rfl rfl dX3_goodOf_4 ?_
  obtain ⟨r2, e3, h⟩ := q_bind h
  refine q_callV (ci := 5) (d := 0) (Mc := mX5_takes) (kc := 0) (nc := 0) [.int x1] okX5_takes (q_shP0 w hp) (by decide) rfl lmX3_71 inX5_takes seX5_takes rfl (Nat.le_of_ble_eq_true rfl) (Nat.le_of_ble_eq_true rfl) (Nat.le_refl _) (Nat.le_refl _) dX3_goodOf_5 (q_L.deep (by decide) (kX5_takes (Q := fun r S' => r = some (.int r2) ∧ S' = S) w hp e3 ⟨rfl, rfl⟩)) (q_kI ?_)
  refine q_istore_n [(2, .int r2), (0, .ref 81), (1, .int x1)] rfl (by decide) rfl dX3_goodOf_8 ?_
  refine q_bipush (v := (8 : Int32)) (by decide) dX3_goodOf_9 ?_
  refine q_aload_n 1 rfl rfl dX3_goodOf_11 ?_
  refine q_getR (q_sh81 w) (by decide) (by decide) rfl lfX3_19 dX3_goodOf_12 (r := p) (aH).1 ?_
  refine q_iload_n 2 rfl rfl dX3_goodOf_15 ?_
  obtain ⟨r4, e5, h⟩ := q_bind h
  refine q_callV (ci := 5) (d := 0) (Mc := mX5_leaves) (kc := 0) (nc := 0) [.int x1] okX5_leaves (q_shP0 w hp) (by decide) rfl lmX3_74 inX5_leaves seX5_leaves rfl (Nat.le_of_ble_eq_true rfl) (Nat.le_of_ble_eq_true rfl) (Nat.le_refl _) (Nat.le_refl _) dX3_goodOf_16 (q_L.deep (by decide) (kX5_leaves (Q := fun r S' => r = some (.int r4) ∧ S' = S) w hp e5 ⟨rfl, rfl⟩)) (q_kI ?_)
  refine q_isub dX3_goodOf_19 ?_
  refine q_iload_n 0 rfl rfl dX3_goodOf_20 ?_
  refine q_iadd dX3_goodOf_21 ?_
  refine q_istore_n [(3, .int (((8 : Int32) - r4) + r2)), (2, .int r2), (0, .ref 81), (1, .int x1)] rfl (by decide) rfl dX3_goodOf_22 ?_
  refine q_iconst (v := (0 : Int32)) (by decide) dX3_goodOf_23 ?_
  refine q_istore [(4, .int (0 : Int32)), (3, .int (((8 : Int32) - r4) + r2)), (2, .int r2), (0, .ref 81), (1, .int x1)] (by decide) rfl dX3_goodOf_24 ?_
  refine q_iload_n 2 rfl rfl dX3_goodOf_26 ?_
  refine q_istore [(5, .int r2), (4, .int (0 : Int32)), (3, .int (((8 : Int32) - r4) + r2)), (2, .int r2), (0, .ref 81), (1, .int x1)] (by decide) rfl dX3_goodOf_27 ?_
  refine q_sub [4, 5, 2, 1, 0] rfl ?_
  exact kX3_goodOf_29 w hp (aH) h hQ
set_option maxRecDepth 20000 in
theorem sX3_spread_97 {g : QG} {Q : Option Value → QS → Prop} {p : Nat} {y1 : Int32} {y2 : Int32} {x : Int32 × QS} {z : (QS) ⊕ (Int32 × QS)} (w : q_Wire x.2) (hp : q_pok p) (aH : q_aH x.2 p) (h : tX3_spread_97 p y1 y2 x = some z) (hQ : (Sum.elim (fun r0 : QS => Q none r0) (fun y : Int32 × QS => q_L g mX3_spread 2 0 0 Q 0 0 97 [(0, .ref 81), (1, .int y1), (2, .int y2), (5, .int y.1)] [] y.2) z)) : q_L g mX3_spread 2 0 0 Q 0 0 97 [(0, .ref 81), (1, .int y1), (2, .int y2), (5, .int x.1)] [] x.2 := by
  unfold tX3_spread_97 at h
  refine q_iload 3 rfl dX3_spread_97 ?_
  refine q_aload_n 0 rfl rfl dX3_spread_99 ?_
  refine q_getR (q_sh81 w) (by decide) (by decide) rfl lfX3_19 dX3_spread_100 (r := p) (aH).1 ?_
  refine q_getRN (q_shP0 w hp) (by decide) (by decide) rfl lfX3_93 dX3_spread_103 (r := (p + 32)) (q_wrP0_13 w hp) ?_
  refine q_iload_n 2 rfl rfl dX3_spread_106 ?_
  obtain ⟨hg1, h⟩ := q_guard h
  refine q_iald (q_shP32 w hp) (q_inb_in hg1) dX3_spread_107 ?_
  refine q_icmp_ge 145 (by decide) dX3_spread_108 (fun c => ?_) (fun c => ?_)
  · rw [if_pos c] at h
    cases h
    exact q_vret rfl dX3_spread_145 hQ
  · rw [if_neg c] at h
    refine q_aload_n 0 rfl rfl dX3_spread_111 ?_
    refine q_getR (q_sh81 w) (by decide) (by decide) rfl lfX3_29 dX3_spread_112 (r := (p + 10)) (aH).2 ?_
    refine q_iload_n 1 rfl rfl dX3_spread_115 ?_
    refine q_iload 3 rfl dX3_spread_116 ?_
    obtain ⟨r2, e3, h⟩ := q_bind h
    refine q_callV (ci := 1) (d := 1) (Mc := mX1_isCaught) (kc := 0) (nc := 0) [.int y1, .int x.1] okX1_isCaught (q_shP10 w hp) (by decide) rfl lmX3_96 inX1_isCaught seX1_isCaught rfl (Nat.le_of_ble_eq_true rfl) (Nat.le_of_ble_eq_true rfl) (Nat.le_refl _) (Nat.le_refl _) dX3_spread_118 (q_L.deep (by decide) (kX1_isCaught (Q := fun r S' => r = some (.int (q_b r2)) ∧ S' = x.2) w hp e3 ⟨rfl, rfl⟩)) (q_kI ?_)
    refine q_if_eq 139 (by decide) dX3_spread_121 (fun c => ?_) (fun c => ?_)
    · have c := q_b_0.mp c; rw [q_if0 c] at h
      refine q_iinc (v := (x.1 + (1 : Int32))) 3 [(5, .int (x.1 + (1 : Int32))), (0, .ref 81), (1, .int y1), (2, .int y2)] (by decide) rfl (congrArg (fun t => x.1 + t) (by decide)) rfl dX3_spread_139 ?_
      refine q_goto 97 (by decide) dX3_spread_142 ?_
      refine q_sub [1, 2, 3, 0] rfl ?_
      cases h
      exact hQ
    · have c := q_b_n.mp c; rw [q_if1 c] at h
      refine q_aload_n 0 rfl rfl dX3_spread_124 ?_
      refine q_aload_n 0 rfl rfl dX3_spread_125 ?_
      refine q_getR (q_sh81 w) (by decide) (by decide) rfl lfX3_29 dX3_spread_126 (r := (p + 10)) (aH).2 ?_
      refine q_getRN (q_shP10 w hp) (by decide) (by decide) rfl lfX3_100 dX3_spread_129 (r := (p + 20)) (q_wrP10_12 w hp) ?_
      refine q_iload 3 rfl dX3_spread_132 ?_
      obtain ⟨hg4, h⟩ := q_guard h
      refine q_iald (q_shP20 w hp) (q_inb_in hg4) dX3_spread_134 ?_
      refine q_iconst (v := (2 : Int32)) (by decide) dX3_spread_135 ?_
      obtain ⟨r5, e6, h⟩ := q_bind h
      refine q_callV (ci := 3) (d := 1) (Mc := mX3_arrive) (kc := 0) (nc := 0) [.int (x.2.2.1 (p + 20) x.1.toNatClampNeg), .int (2 : Int32)] okX3_arrive (q_sh81 w) (by decide) rfl lmX3_42 inX3_arrive seX3_arrive rfl (Nat.le_of_ble_eq_true rfl) (Nat.le_of_ble_eq_true rfl) (Nat.le_refl _) (Nat.le_refl _) dX3_spread_136 (q_L.deep (by decide) (kX3_arrive (Q := fun r S' => r = none ∧ S' = r5) w hp (aH) e6 ⟨rfl, rfl⟩)) (q_kV ?_)
      have fx7 : q_Fx x.2 r5 := q_Fx.tr (q_Fx.rf x.2) (fxX3_arrive e6)
      refine q_iinc (v := (x.1 + (1 : Int32))) 3 [(5, .int (x.1 + (1 : Int32))), (0, .ref 81), (1, .int y1), (2, .int y2)] (by decide) rfl (congrArg (fun t => x.1 + t) (by decide)) rfl dX3_spread_139 ?_
      refine q_goto 97 (by decide) dX3_spread_142 ?_
      refine q_sub [1, 2, 3, 0] rfl ?_
      cases h
      exact hQ
theorem lX3_spread_97 {g : QG} {Q : Option Value → QS → Prop} {p : Nat} {y1 : Int32} {y2 : Int32} {r : QS} (hp : q_pok p) (hQ : Q none r) : ∀ (c : Nat) (x : Int32 × QS), q_Wire x.2 → q_aH x.2 p → q_it (tX3_spread_97 p y1 y2) c x = some r → q_L g mX3_spread 2 0 0 Q 0 0 97 [(0, .ref 81), (1, .int y1), (2, .int y2), (5, .int x.1)] [] x.2 := by
  intro c
  induction c with
  | zero => intro x w aH h; cases h
  | succ c ih =>
    intro x w aH h
    simp only [q_it] at h
    cases hz : tX3_spread_97 p y1 y2 x with
    | none => rw [hz] at h; cases h
    | some z =>
      rw [hz] at h
      refine sX3_spread_97 w hp aH hz ?_
      rcases z with z | y
      · cases h; exact hQ
      · have fz := fxtX3_spread_97 hz; exact ih y (w.fx fz) (aH.fx fz) h
theorem kX3_spread_97 {S : QS} {g : QG} {Q : Option Value → QS → Prop} {p : Nat} {y1 : Int32} {y2 : Int32} {y5 : Int32} {r : QS} (w : q_Wire S) (hp : q_pok p) (aH : q_aH S p) (h : fX3_spread_97 S p y1 y2 y5 = some r) (hQ : Q none r) : q_L g mX3_spread 2 0 0 Q 0 0 97 [(0, .ref 81), (1, .int y1), (2, .int y2), (5, .int y5)] [] S := by
  obtain ⟨c, hc⟩ := q_run_it h
  exact lX3_spread_97 hp hQ c (y5, S) w aH hc
set_option maxRecDepth 20000 in
theorem kX3_spread {S : QS} {g : QG} {Q : Option Value → QS → Prop} {p : Nat} {x1 : Int32} {x2 : Int32} {r : QS} (w : q_Wire S) (hp : q_pok p) (aH : q_aH S p) (h : fX3_spread S p x1 x2 = some r) (hQ : Q none r) : q_M g mX3_spread 2 0 0 [.ref 81, .int x1, .int x2] S Q := by
  unfold fX3_spread at h
  show q_L g mX3_spread 2 0 0 Q 0 0 0 [(0, .ref 81), (1, .int x1), (2, .int x2)] [] S
  refine q_aload_n 0 rfl rfl dX3_spread_0 ?_
  refine q_iload_n 1 rfl rfl dX3_spread_1 ?_
  obtain ⟨r8, e9, h⟩ := q_bind h
  refine q_callV (ci := 3) (d := 1) (Mc := mX3_goodOf) (kc := 0) (nc := 0) [.int x1] okX3_goodOf (q_sh81 w) (by decide) rfl lmX3_54 inX3_goodOf seX3_goodOf rfl (Nat.le_of_ble_eq_true rfl) (Nat.le_of_ble_eq_true rfl) (Nat.le_refl _) (Nat.le_refl _) dX3_spread_2 (q_L.deep (by decide) (kX3_goodOf (Q := fun r S' => r = some (.int r8) ∧ S' = S) w hp (aH) e9 ⟨rfl, rfl⟩)) (q_kI ?_)
  refine q_istore_n [(3, .int r8), (0, .ref 81), (1, .int x1), (2, .int x2)] rfl (by decide) rfl dX3_spread_5 ?_
  refine q_iload_n 0 rfl rfl dX3_spread_6 ?_
  refine q_if_ne 11 (by decide) dX3_spread_7 (fun c => ?_) (fun c => ?_)
  · rw [if_neg c] at h
    refine q_iload_n 0 rfl rfl dX3_spread_11 ?_
    refine q_aload_n 1 rfl rfl dX3_spread_12 ?_
    refine q_getR (q_sh81 w) (by decide) (by decide) rfl lfX3_19 dX3_spread_13 (r := p) (aH).1 ?_
    refine q_iload_n 2 rfl rfl dX3_spread_16 ?_
    obtain ⟨r10, e11, h⟩ := q_bind h
    refine q_callV (ci := 5) (d := 1) (Mc := mX5_takes) (kc := 0) (nc := 0) [.int x1] okX5_takes (q_shP0 w hp) (by decide) rfl lmX3_71 inX5_takes seX5_takes rfl (Nat.le_of_ble_eq_true rfl) (Nat.le_of_ble_eq_true rfl) (Nat.le_refl _) (Nat.le_refl _) dX3_spread_17 (q_L.deep (by decide) (kX5_takes (Q := fun r S' => r = some (.int r10) ∧ S' = S) w hp e11 ⟨rfl, rfl⟩)) (q_kI ?_)
    refine q_ishr dX3_spread_20 ?_
    refine q_aload_n 1 rfl rfl dX3_spread_21 ?_
    refine q_getR (q_sh81 w) (by decide) (by decide) rfl lfX3_19 dX3_spread_22 (r := p) (aH).1 ?_
    refine q_iload_n 2 rfl rfl dX3_spread_25 ?_
    obtain ⟨r12, e13, h⟩ := q_bind h
    refine q_callV (ci := 5) (d := 1) (Mc := mX5_leaves) (kc := 0) (nc := 0) [.int x1] okX5_leaves (q_shP0 w hp) (by decide) rfl lmX3_74 inX5_leaves seX5_leaves rfl (Nat.le_of_ble_eq_true rfl) (Nat.le_of_ble_eq_true rfl) (Nat.le_refl _) (Nat.le_refl _) dX3_spread_26 (q_L.deep (by decide) (kX5_leaves (Q := fun r S' => r = some (.int r12) ∧ S' = S) w hp e13 ⟨rfl, rfl⟩)) (q_kI ?_)
    refine q_ishl dX3_spread_29 ?_
    refine q_istore [(4, .int ((r8 >>> (r10 &&& 31)) <<< (r12 &&& 31))), (3, .int r8), (0, .ref 81), (1, .int x1), (2, .int x2)] (by decide) rfl dX3_spread_30 ?_
    refine q_aload_n 2 rfl rfl dX3_spread_32 ?_
    refine q_getR (q_sh81 w) (by decide) (by decide) rfl lfX3_29 dX3_spread_33 (r := (p + 10)) (aH).2 ?_
    refine q_getRN (q_shP10 w hp) (by decide) (by decide) rfl lfX3_77 dX3_spread_36 (r := (p + 11)) (q_wrP10_1 w hp) ?_
    refine q_iload_n 3 rfl rfl dX3_spread_39 ?_
    obtain ⟨hg14, h⟩ := q_guard h
    refine q_iald (q_shP11 w hp) (q_inb_in hg14) dX3_spread_40 ?_
    obtain ⟨r15, e16, h⟩ := q_bind h
    refine q_callS (d := 1) (Mc := mX1_goesOn) (kc := 0) (nc := 0) [.int (S.2.1 (p + 11) x1.toNatClampNeg)] okX1_goesOn lmX3_80 inX1_goesOn rfl (Nat.le_of_ble_eq_true rfl) (Nat.le_of_ble_eq_true rfl) (Nat.le_refl _) (Nat.le_refl _) dX3_spread_41 (q_L.deep (by decide) (kX1_goesOn (Q := fun r S' => r = some (.int (q_b r15)) ∧ S' = S) w e16 ⟨rfl, rfl⟩)) (q_kI ?_)
    obtain ⟨v20, hv, h⟩ := q_bind h
    have fx21 : q_Fx S v20 := by
      replace h := hv
      by_cases c : r15 = true
      · rw [if_pos c] at h
        obtain ⟨r17, e18, h⟩ := q_bind h
        have fx19 : q_Fx S r17 := q_Fx.tr (q_Fx.rf S) (fxX3_arrive e18)
        obtain rfl := Option.some.inj h
        exact fx19
      · rw [if_neg c] at h
        obtain rfl := Option.some.inj h
        exact q_Fx.rf _
    have K1 : q_L g mX3_spread 2 0 0 Q 0 0 56 [(0, .ref 81), (1, .int x1), (2, .int x2), (4, .int ((r8 >>> (r10 &&& 31)) <<< (r12 &&& 31)))] [] v20 := by
      refine q_aload_n 0 rfl rfl dX3_spread_56 ?_
      refine q_getR (q_sh81 (w.fx fx21)) (by decide) (by decide) rfl lfX3_29 dX3_spread_57 (r := (p + 10)) (aH.fx fx21).2 ?_
      refine q_getRN (q_shP10 (w.fx fx21) hp) (by decide) (by decide) rfl lfX3_77 dX3_spread_60 (r := (p + 11)) (q_wrP10_1 (w.fx fx21) hp) ?_
      refine q_iload_n 1 rfl rfl dX3_spread_63 ?_
      obtain ⟨hg22, h⟩ := q_guard h
      refine q_iald (q_shP11 (w.fx fx21) hp) (q_inb_in hg22) dX3_spread_64 ?_
      obtain ⟨r23, e24, h⟩ := q_bind h
      refine q_callS (d := 1) (Mc := mX1_goesToLabel) (kc := 0) (nc := 0) [.int (v20.2.1 (p + 11) x1.toNatClampNeg)] okX1_goesToLabel lmX3_84 inX1_goesToLabel rfl (Nat.le_of_ble_eq_true rfl) (Nat.le_of_ble_eq_true rfl) (Nat.le_refl _) (Nat.le_refl _) dX3_spread_65 (q_L.deep (by decide) (kX1_goesToLabel (Q := fun r S' => r = some (.int (q_b r23)) ∧ S' = v20) (w.fx fx21) e24 ⟨rfl, rfl⟩)) (q_kI ?_)
      obtain ⟨v29, hv, h⟩ := q_bind h
      have fx30 : q_Fx S v29 := by
        replace h := hv
        by_cases c : r23 = true
        · rw [if_pos c] at h
          obtain ⟨hg25, h⟩ := q_guard h
          obtain ⟨r26, e27, h⟩ := q_bind h
          have fx28 : q_Fx S r26 := q_Fx.tr (fx21) (fxX3_arrive e27)
          obtain rfl := Option.some.inj h
          exact fx28
        · rw [if_neg c] at h
          obtain rfl := Option.some.inj h
          exact fx21
      have K2 : q_L g mX3_spread 2 0 0 Q 0 0 86 [(0, .ref 81), (1, .int x1), (2, .int x2)] [] v29 := by
        refine q_aload_n 0 rfl rfl dX3_spread_86 ?_
        refine q_getR (q_sh81 (w.fx fx30)) (by decide) (by decide) rfl lfX3_19 dX3_spread_87 (r := p) (aH.fx fx30).1 ?_
        refine q_getRN (q_shP0 (w.fx fx30) hp) (by decide) (by decide) rfl lfX3_90 dX3_spread_90 (r := (p + 31)) (q_wrP0_12 (w.fx fx30) hp) ?_
        refine q_iload_n 2 rfl rfl dX3_spread_93 ?_
        obtain ⟨hg31, h⟩ := q_guard h
        refine q_iald (q_shP31 (w.fx fx30) hp) (q_inb_in hg31) dX3_spread_94 ?_
        refine q_istore [(5, .int (v29.2.1 (p + 31) x2.toNatClampNeg)), (0, .ref 81), (1, .int x1), (2, .int x2)] (by decide) rfl dX3_spread_95 ?_
        refine q_sub [1, 2, 3, 0] rfl ?_
        exact kX3_spread_97 (w.fx fx30) hp (aH.fx fx30) h hQ
      replace h := hv
      refine q_if_eq 86 (by decide) dX3_spread_68 (fun c => ?_) (fun c => ?_)
      · have c := q_b_0.mp c; rw [q_if0 c] at h
        obtain rfl := Option.some.inj h
        refine q_sub [0, 1, 2] rfl ?_
        exact K2
      · have c := q_b_n.mp c; rw [q_if1 c] at h
        refine q_aload_n 0 rfl rfl dX3_spread_71 ?_
        refine q_aload_n 0 rfl rfl dX3_spread_72 ?_
        refine q_getR (q_sh81 (w.fx fx21)) (by decide) (by decide) rfl lfX3_29 dX3_spread_73 (r := (p + 10)) (aH.fx fx21).2 ?_
        refine q_getRN (q_shP10 (w.fx fx21) hp) (by decide) (by decide) rfl lfX3_87 dX3_spread_76 (r := (p + 12)) (q_wrP10_2 (w.fx fx21) hp) ?_
        refine q_iload_n 1 rfl rfl dX3_spread_79 ?_
        obtain ⟨hg25, h⟩ := q_guard h
        refine q_iald (q_shP12 (w.fx fx21) hp) (q_inb_in hg25) dX3_spread_80 ?_
        refine q_iload 3 rfl dX3_spread_81 ?_
        obtain ⟨r26, e27, h⟩ := q_bind h
        refine q_callV (ci := 3) (d := 1) (Mc := mX3_arrive) (kc := 0) (nc := 0) [.int (v20.2.1 (p + 12) x1.toNatClampNeg), .int ((r8 >>> (r10 &&& 31)) <<< (r12 &&& 31))] okX3_arrive (q_sh81 (w.fx fx21)) (by decide) rfl lmX3_42 inX3_arrive seX3_arrive rfl (Nat.le_of_ble_eq_true rfl) (Nat.le_of_ble_eq_true rfl) (Nat.le_refl _) (Nat.le_refl _) dX3_spread_83 (q_L.deep (by decide) (kX3_arrive (Q := fun r S' => r = none ∧ S' = r26) (w.fx fx21) hp (aH.fx fx21) e27 ⟨rfl, rfl⟩)) (q_kV ?_)
        have fx28 : q_Fx S r26 := q_Fx.tr (fx21) (fxX3_arrive e27)
        obtain rfl := Option.some.inj h
        refine q_sub [0, 1, 2] rfl ?_
        exact K2
    replace h := hv
    refine q_if_eq 56 (by decide) dX3_spread_44 (fun c => ?_) (fun c => ?_)
    · have c := q_b_0.mp c; rw [q_if0 c] at h
      obtain rfl := Option.some.inj h
      refine q_sub [2, 3, 4, 0] rfl ?_
      exact K1
    · have c := q_b_n.mp c; rw [q_if1 c] at h
      refine q_aload_n 2 rfl rfl dX3_spread_47 ?_
      refine q_iload_n 3 rfl rfl dX3_spread_48 ?_
      refine q_iconst (v := (1 : Int32)) (by decide) dX3_spread_49 ?_
      refine q_iadd dX3_spread_50 ?_
      refine q_iload 0 rfl dX3_spread_51 ?_
      obtain ⟨r17, e18, h⟩ := q_bind h
      refine q_callV (ci := 3) (d := 1) (Mc := mX3_arrive) (kc := 0) (nc := 0) [.int (x1 + (1 : Int32)), .int ((r8 >>> (r10 &&& 31)) <<< (r12 &&& 31))] okX3_arrive (q_sh81 w) (by decide) rfl lmX3_42 inX3_arrive seX3_arrive rfl (Nat.le_of_ble_eq_true rfl) (Nat.le_of_ble_eq_true rfl) (Nat.le_refl _) (Nat.le_refl _) dX3_spread_53 (q_L.deep (by decide) (kX3_arrive (Q := fun r S' => r = none ∧ S' = r17) w hp (aH) e18 ⟨rfl, rfl⟩)) (q_kV ?_)
      have fx19 : q_Fx S r17 := q_Fx.tr (q_Fx.rf S) (fxX3_arrive e18)
      obtain rfl := Option.some.inj h
      refine q_sub [2, 3, 4, 0] rfl ?_
      exact K1
  · rw [if_pos c] at h
    obtain rfl := Option.some.inj h
    exact q_vret rfl dX3_spread_10 hQ
set_option maxRecDepth 20000 in
theorem sX3_firstFault_107 {g : QG} {Q : Option Value → QS → Prop} {p : Nat} {y3 : Int32} {x : Int32 × QS} {z : (Int32 × QS) ⊕ (Int32 × QS)} (w : q_Wire x.2) (hp : q_pok p) (aH : q_aH x.2 p) (h : tX3_firstFault_107 p y3 x = some z) (hQ : (Sum.elim (fun r0 : Int32 × QS => Q (some (.int r0.1)) r0.2) (fun y : Int32 × QS => q_L g mX3_firstFault 3 0 0 Q 0 0 107 [(0, .ref 81), (3, .int y3), (4, .int y.1)] [] y.2) z)) : q_L g mX3_firstFault 3 0 0 Q 0 0 107 [(0, .ref 81), (3, .int y3), (4, .int x.1)] [] x.2 := by
  unfold tX3_firstFault_107 at h
  refine q_iload 2 rfl dX3_firstFault_107 ?_
  refine q_iload_n 1 rfl rfl dX3_firstFault_109 ?_
  refine q_icmp_ge 175 (by decide) dX3_firstFault_110 (fun c => ?_) (fun c => ?_)
  · rw [if_pos c] at h
    refine q_iconst (v := (-1 : Int32)) (by decide) dX3_firstFault_175 ?_
    cases h
    exact q_iret rfl rfl dX3_firstFault_176 hQ
  · rw [if_neg c] at h
    refine q_aload_n 0 rfl rfl dX3_firstFault_113 ?_
    refine q_getR (q_sh81 w) (by decide) (by decide) rfl lfX3_9 dX3_firstFault_114 (r := 82) (q_wr81_2 w) ?_
    refine q_iload 2 rfl dX3_firstFault_117 ?_
    obtain ⟨hg1, h⟩ := q_guard h
    refine q_iald (q_sh82 w) (q_inb_in hg1) dX3_firstFault_119 ?_
    refine q_istore [(5, .int (x.2.2.1 82 x.1.toNatClampNeg)), (0, .ref 81), (3, .int y3), (4, .int x.1)] (by decide) rfl dX3_firstFault_120 ?_
    refine q_iload 0 rfl dX3_firstFault_122 ?_
    refine q_aload_n 1 rfl rfl dX3_firstFault_124 ?_
    refine q_iload 3 rfl dX3_firstFault_125 ?_
    obtain ⟨r2, e3, h⟩ := q_bind h
    refine q_callV (ci := 3) (d := 2) (Mc := mX3_goodOf) (kc := 0) (nc := 0) [.int x.1] okX3_goodOf (q_sh81 w) (by decide) rfl lmX3_54 inX3_goodOf seX3_goodOf rfl (Nat.le_of_ble_eq_true rfl) (Nat.le_of_ble_eq_true rfl) (Nat.le_refl _) (Nat.le_refl _) dX3_firstFault_127 (q_L.deep (by decide) (kX3_goodOf (Q := fun r S' => r = some (.int r2) ∧ S' = x.2) w hp (aH) e3 ⟨rfl, rfl⟩)) (q_kI ?_)
    refine q_icmp_ne 142 (by decide) dX3_firstFault_130 (fun c => ?_) (fun c => ?_)
    · rw [if_neg c] at h
      refine q_iload 3 rfl dX3_firstFault_142 ?_
      cases h
      exact q_iret rfl rfl dX3_firstFault_144 hQ
    · rw [if_pos c] at h
      refine q_iload 0 rfl dX3_firstFault_133 ?_
      obtain ⟨r4, e5, h⟩ := q_bind h
      refine q_callS (d := 2) (Mc := mJ6_bitCount_0f7a4) (kc := 0) (nc := 0) [.int (x.2.2.1 82 x.1.toNatClampNeg)] okJ6_bitCount_0f7a4 lmX3_58 inJ6_bitCount_0f7a4 rfl (Nat.le_of_ble_eq_true rfl) (Nat.le_of_ble_eq_true rfl) (Nat.le_refl _) (Nat.le_refl _) dX3_firstFault_135 (q_L.deep (by decide) (kJ6_bitCount_0f7a4 (Q := fun r S' => r = some (.int r4) ∧ S' = x.2) w e5 ⟨rfl, rfl⟩)) (q_kI ?_)
      refine q_iconst (v := (1 : Int32)) (by decide) dX3_firstFault_138 ?_
      refine q_icmp_le 145 (by decide) dX3_firstFault_139 (fun c => ?_) (fun c => ?_)
      · rw [if_pos c] at h
        refine q_aload_n 1 rfl rfl dX3_firstFault_145 ?_
        refine q_getR (q_sh81 w) (by decide) (by decide) rfl lfX3_29 dX3_firstFault_146 (r := (p + 10)) (aH).2 ?_
        refine q_getRN (q_shP10 w hp) (by decide) (by decide) rfl lfX3_63 dX3_firstFault_149 (r := (p + 17)) (q_wrP10_7 w hp) ?_
        refine q_iload 3 rfl dX3_firstFault_152 ?_
        refine q_iload 0 rfl dX3_firstFault_154 ?_
        refine q_if_ne 163 (by decide) dX3_firstFault_156 (fun c => ?_) (fun c => ?_)
        · rw [if_neg c] at h
          refine q_iload 0 rfl dX3_firstFault_163 ?_
          obtain ⟨r6, e7, h⟩ := q_bind h
          refine q_callS (d := 2) (Mc := mJ6_numberOfTrailingZeros_0f7a4) (kc := 0) (nc := 0) [.int (x.2.2.1 82 x.1.toNatClampNeg)] okJ6_numberOfTrailingZeros_0f7a4 lmX3_68 inJ6_numberOfTrailingZeros_0f7a4 rfl (Nat.le_of_ble_eq_true rfl) (Nat.le_of_ble_eq_true rfl) (Nat.le_refl _) (Nat.le_refl _) dX3_firstFault_165 (q_L.deep (by decide) (kJ6_numberOfTrailingZeros_0f7a4 (Q := fun r S' => r = some (.int r6) ∧ S' = x.2) w e7 ⟨rfl, rfl⟩)) (q_kI ?_)
          obtain ⟨hg8, h⟩ := q_guard h
          refine q_iast (q_shP17 w hp) (q_inb_in hg8) dX3_firstFault_168 ?_
          obtain ⟨S9, e10, h⟩ := q_bindS h
          refine q_st e10 ?_
          have fx11 : q_Fx x.2 S9 := e10 ▸ q_Fx.sI (q_Fx.rf x.2)
          refine q_iinc (v := (x.1 + (1 : Int32))) 3 [(4, .int (x.1 + (1 : Int32))), (5, .int (x.2.2.1 82 x.1.toNatClampNeg)), (0, .ref 81), (3, .int y3)] (by decide) rfl (congrArg (fun t => x.1 + t) (by decide)) rfl dX3_firstFault_169 ?_
          refine q_goto 107 (by decide) dX3_firstFault_172 ?_
          refine q_sub [2, 3, 0] rfl ?_
          cases h
          exact hQ
        · rw [if_pos c] at h
          refine q_iconst (v := (-1 : Int32)) (by decide) dX3_firstFault_159 ?_
          refine q_goto 168 (by decide) dX3_firstFault_160 ?_
          obtain ⟨hg12, h⟩ := q_guard h
          refine q_iast (q_shP17 w hp) (q_inb_in hg12) dX3_firstFault_168 ?_
          obtain ⟨S13, e14, h⟩ := q_bindS h
          refine q_st e14 ?_
          have fx15 : q_Fx x.2 S13 := e14 ▸ q_Fx.sI (q_Fx.rf x.2)
          refine q_iinc (v := (x.1 + (1 : Int32))) 3 [(4, .int (x.1 + (1 : Int32))), (5, .int (x.2.2.1 82 x.1.toNatClampNeg)), (0, .ref 81), (3, .int y3)] (by decide) rfl (congrArg (fun t => x.1 + t) (by decide)) rfl dX3_firstFault_169 ?_
          refine q_goto 107 (by decide) dX3_firstFault_172 ?_
          refine q_sub [2, 3, 0] rfl ?_
          cases h
          exact hQ
      · rw [if_neg c] at h
        refine q_iload 3 rfl dX3_firstFault_142 ?_
        cases h
        exact q_iret rfl rfl dX3_firstFault_144 hQ
theorem lX3_firstFault_107 {g : QG} {Q : Option Value → QS → Prop} {p : Nat} {y3 : Int32} {r : Int32 × QS} (hp : q_pok p) (hQ : Q (some (.int r.1)) r.2) : ∀ (c : Nat) (x : Int32 × QS), q_Wire x.2 → q_aH x.2 p → q_it (tX3_firstFault_107 p y3) c x = some r → q_L g mX3_firstFault 3 0 0 Q 0 0 107 [(0, .ref 81), (3, .int y3), (4, .int x.1)] [] x.2 := by
  intro c
  induction c with
  | zero => intro x w aH h; cases h
  | succ c ih =>
    intro x w aH h
    simp only [q_it] at h
    cases hz : tX3_firstFault_107 p y3 x with
    | none => rw [hz] at h; cases h
    | some z =>
      rw [hz] at h
      refine sX3_firstFault_107 w hp aH hz ?_
      rcases z with z | y
      · cases h; exact hQ
      · have fz := fxtX3_firstFault_107 hz; exact ih y (w.fx fz) (aH.fx fz) h
theorem kX3_firstFault_107 {S : QS} {g : QG} {Q : Option Value → QS → Prop} {p : Nat} {y3 : Int32} {y4 : Int32} {r : Int32 × QS} (w : q_Wire S) (hp : q_pok p) (aH : q_aH S p) (h : fX3_firstFault_107 S p y3 y4 = some r) (hQ : Q (some (.int r.1)) r.2) : q_L g mX3_firstFault 3 0 0 Q 0 0 107 [(0, .ref 81), (3, .int y3), (4, .int y4)] [] S := by
  obtain ⟨c, hc⟩ := q_run_it h
  exact lX3_firstFault_107 hp hQ c (y4, S) w aH hc
set_option maxRecDepth 20000 in
theorem sX3_firstFault_61 {g : QG} {Q : Option Value → QS → Prop} {p : Nat} {y1 : Int32} {y2 : Int32} {y3 : Int32} {x : Int32 × Int32 × QS} {z : ((Int32 × QS) ⊕ (Int32 × QS)) ⊕ (Int32 × Int32 × QS)} (w : q_Wire x.2.2) (hp : q_pok p) (aH : q_aH x.2.2 p) (h : tX3_firstFault_61 p y1 y2 y3 x = some z) (hQ : (Sum.elim (fun r1 : (Int32 × QS) ⊕ (Int32 × QS) => (Sum.elim (fun r0 : Int32 × QS => Q (some (.int r0.1)) r0.2) (fun y : Int32 × QS => q_L g mX3_firstFault 3 0 0 Q 0 0 39 [(0, .ref 81), (1, .int y1), (2, .int y2), (3, .int y3), (4, .int y.1)] [] y.2) r1)) (fun y' : Int32 × Int32 × QS => q_L g mX3_firstFault 3 0 0 Q 0 0 61 [(0, .ref 81), (1, .int y1), (2, .int y2), (3, .int y3), (4, .int y'.1), (5, .int y'.2.1)] [] y'.2.2) z)) : q_L g mX3_firstFault 3 0 0 Q 0 0 61 [(0, .ref 81), (1, .int y1), (2, .int y2), (3, .int y3), (4, .int x.1), (5, .int x.2.1)] [] x.2.2 := by
  unfold tX3_firstFault_61 at h
  refine q_iload 5 rfl dX3_firstFault_61 ?_
  refine q_iload_n 3 rfl rfl dX3_firstFault_63 ?_
  refine q_icmp_ge 98 (by decide) dX3_firstFault_64 (fun c => ?_) (fun c => ?_)
  · rw [if_pos c] at h
    refine q_iinc (v := (x.1 + (1 : Int32))) 4 [(4, .int (x.1 + (1 : Int32))), (0, .ref 81), (1, .int y1), (2, .int y2), (3, .int y3), (5, .int x.2.1)] (by decide) rfl (congrArg (fun t => x.1 + t) (by decide)) rfl dX3_firstFault_98 ?_
    refine q_goto 39 (by decide) dX3_firstFault_101 ?_
    refine q_sub [1, 2, 3, 4, 0] rfl ?_
    cases h
    exact hQ
  · rw [if_neg c] at h
    refine q_aload_n 0 rfl rfl dX3_firstFault_67 ?_
    refine q_getR (q_sh81 w) (by decide) (by decide) rfl lfX3_15 dX3_firstFault_68 (r := 83) (q_wr81_3 w) ?_
    refine q_iload 5 rfl dX3_firstFault_71 ?_
    obtain ⟨hg16, h⟩ := q_guard h
    refine q_zald (q_sh83 w) (q_inb_in hg16) dX3_firstFault_73 ?_
    refine q_if_eq 92 (by decide) dX3_firstFault_74 (fun c => ?_) (fun c => ?_)
    · rw [if_pos c] at h
      refine q_iinc (v := (x.2.1 + (1 : Int32))) 5 [(5, .int (x.2.1 + (1 : Int32))), (0, .ref 81), (1, .int y1), (2, .int y2), (3, .int y3), (4, .int x.1)] (by decide) rfl (congrArg (fun t => x.2.1 + t) (by decide)) rfl dX3_firstFault_92 ?_
      refine q_goto 61 (by decide) dX3_firstFault_95 ?_
      refine q_sub [1, 2, 3, 4, 5, 0] rfl ?_
      cases h
      exact hQ
    · rw [if_neg c] at h
      refine q_aload_n 0 rfl rfl dX3_firstFault_77 ?_
      refine q_getR (q_sh81 w) (by decide) (by decide) rfl lfX3_15 dX3_firstFault_78 (r := 83) (q_wr81_3 w) ?_
      refine q_iload 5 rfl dX3_firstFault_81 ?_
      refine q_iconst (v := (0 : Int32)) (by decide) dX3_firstFault_83 ?_
      obtain ⟨hg17, h⟩ := q_guard h
      refine q_zast (q_sh83 w) (q_inb_in hg17) dX3_firstFault_84 ?_
      obtain ⟨S18, e19, h⟩ := q_bindS h
      refine q_st e19 ?_
      have fx20 : q_Fx x.2.2 S18 := e19 ▸ q_Fx.sI (q_Fx.rf x.2.2)
      refine q_aload_n 0 rfl rfl dX3_firstFault_85 ?_
      refine q_iload 5 rfl dX3_firstFault_86 ?_
      refine q_iload_n 1 rfl rfl dX3_firstFault_88 ?_
      obtain ⟨r21, e22, h⟩ := q_bind h
      refine q_callV (ci := 3) (d := 2) (Mc := mX3_spread) (kc := 0) (nc := 0) [.int x.2.1, .int y1] okX3_spread (q_sh81 (w.fx fx20)) (by decide) rfl lmX3_51 inX3_spread seX3_spread rfl (Nat.le_of_ble_eq_true rfl) (Nat.le_of_ble_eq_true rfl) (Nat.le_refl _) (Nat.le_refl _) dX3_firstFault_89 (q_L.deep (by decide) (kX3_spread (Q := fun r S' => r = none ∧ S' = r21) (w.fx fx20) hp (aH.fx fx20) e22 ⟨rfl, rfl⟩)) (q_kV ?_)
      have fx23 : q_Fx x.2.2 r21 := q_Fx.tr (fx20) (fxX3_spread e22)
      refine q_iinc (v := (x.2.1 + (1 : Int32))) 5 [(5, .int (x.2.1 + (1 : Int32))), (0, .ref 81), (1, .int y1), (2, .int y2), (3, .int y3), (4, .int x.1)] (by decide) rfl (congrArg (fun t => x.2.1 + t) (by decide)) rfl dX3_firstFault_92 ?_
      refine q_goto 61 (by decide) dX3_firstFault_95 ?_
      refine q_sub [1, 2, 3, 4, 5, 0] rfl ?_
      cases h
      exact hQ
theorem lX3_firstFault_61 {g : QG} {Q : Option Value → QS → Prop} {p : Nat} {y1 : Int32} {y2 : Int32} {y3 : Int32} {r : (Int32 × QS) ⊕ (Int32 × QS)} (hp : q_pok p) (hQ : (Sum.elim (fun r0 : Int32 × QS => Q (some (.int r0.1)) r0.2) (fun y : Int32 × QS => q_L g mX3_firstFault 3 0 0 Q 0 0 39 [(0, .ref 81), (1, .int y1), (2, .int y2), (3, .int y3), (4, .int y.1)] [] y.2) r)) : ∀ (c : Nat) (x : Int32 × Int32 × QS), q_Wire x.2.2 → q_aH x.2.2 p → q_it (tX3_firstFault_61 p y1 y2 y3) c x = some r → q_L g mX3_firstFault 3 0 0 Q 0 0 61 [(0, .ref 81), (1, .int y1), (2, .int y2), (3, .int y3), (4, .int x.1), (5, .int x.2.1)] [] x.2.2 := by
  intro c
  induction c with
  | zero => intro x w aH h; cases h
  | succ c ih =>
    intro x w aH h
    simp only [q_it] at h
    cases hz : tX3_firstFault_61 p y1 y2 y3 x with
    | none => rw [hz] at h; cases h
    | some z =>
      rw [hz] at h
      refine sX3_firstFault_61 w hp aH hz ?_
      rcases z with z | y
      · cases h; exact hQ
      · have fz := fxtX3_firstFault_61 hz; exact ih y (w.fx fz) (aH.fx fz) h
theorem usX3_firstFault_61 {S : QS} {g : QG} {Q : Option Value → QS → Prop} {p : Nat} {y1 : Int32} {y2 : Int32} {y3 : Int32} {y4 : Int32} {y5 : Int32} {r : (Int32 × QS) ⊕ (Int32 × QS)} (w : q_Wire S) (hp : q_pok p) (aH : q_aH S p) (h : uX3_firstFault_61 S p y1 y2 y3 y4 y5 = some r) (hQ : (Sum.elim (fun r0 : Int32 × QS => Q (some (.int r0.1)) r0.2) (fun y : Int32 × QS => q_L g mX3_firstFault 3 0 0 Q 0 0 39 [(0, .ref 81), (1, .int y1), (2, .int y2), (3, .int y3), (4, .int y.1)] [] y.2) r)) : q_L g mX3_firstFault 3 0 0 Q 0 0 61 [(0, .ref 81), (1, .int y1), (2, .int y2), (3, .int y3), (4, .int y4), (5, .int y5)] [] S := by
  obtain ⟨c, hc⟩ := q_run_it h
  exact lX3_firstFault_61 hp hQ c (y4, y5, S) w aH hc
set_option maxRecDepth 20000 in
theorem sX3_firstFault_39 {g : QG} {Q : Option Value → QS → Prop} {p : Nat} {y1 : Int32} {y2 : Int32} {y3 : Int32} {x : Int32 × QS} {z : (Int32 × QS) ⊕ (Int32 × QS)} (w : q_Wire x.2) (hp : q_pok p) (aH : q_aH x.2 p) (h : tX3_firstFault_39 p y1 y2 y3 x = some z) (hQ : (Sum.elim (fun r0 : Int32 × QS => Q (some (.int r0.1)) r0.2) (fun y : Int32 × QS => q_L g mX3_firstFault 3 0 0 Q 0 0 39 [(0, .ref 81), (1, .int y1), (2, .int y2), (3, .int y3), (4, .int y.1)] [] y.2) z)) : q_L g mX3_firstFault 3 0 0 Q 0 0 39 [(0, .ref 81), (1, .int y1), (2, .int y2), (3, .int y3), (4, .int x.1)] [] x.2 := by
  unfold tX3_firstFault_39 at h
  refine q_iload 4 rfl dX3_firstFault_39 ?_
  refine q_ldc lkX3_46 dX3_firstFault_41 ?_
  refine q_icmp_ge 104 (by decide) dX3_firstFault_43 (fun c => ?_) (fun c => ?_)
  · rw [if_pos c] at h
    refine q_iload_n 2 rfl rfl dX3_firstFault_104 ?_
    refine q_istore [(4, .int y2), (0, .ref 81), (1, .int y1), (2, .int y2), (3, .int y3)] (by decide) rfl dX3_firstFault_105 ?_
    refine q_sub [1, 4, 0] rfl ?_
    obtain ⟨r24, e25, h⟩ := q_bind h
    cases h
    exact kX3_firstFault_107 w hp (aH) e25 hQ
  · rw [if_neg c] at h
    refine q_aload_n 0 rfl rfl dX3_firstFault_46 ?_
    refine q_getI (q_sh81 w) (by decide) (by decide) rfl lfX3_47 dX3_firstFault_47 ?_
    refine q_if_eq 104 (by decide) dX3_firstFault_50 (fun c => ?_) (fun c => ?_)
    · rw [if_pos c] at h
      refine q_iload_n 2 rfl rfl dX3_firstFault_104 ?_
      refine q_istore [(4, .int y2), (0, .ref 81), (1, .int y1), (2, .int y2), (3, .int y3)] (by decide) rfl dX3_firstFault_105 ?_
      refine q_sub [1, 4, 0] rfl ?_
      obtain ⟨r26, e27, h⟩ := q_bind h
      cases h
      exact kX3_firstFault_107 w hp (aH) e27 hQ
    · rw [if_neg c] at h
      refine q_aload_n 0 rfl rfl dX3_firstFault_53 ?_
      refine q_iconst (v := (0 : Int32)) (by decide) dX3_firstFault_54 ?_
      refine q_putI (q_sh81 w) (by decide) (by decide) rfl rfl ⟨rfl, rfl⟩ lfX3_47 dX3_firstFault_55 ?_
      obtain ⟨S28, e29, h⟩ := q_bindS h
      refine q_st e29 ?_
      have fx30 : q_Fx x.2 S28 := e29 ▸ q_Fx.sI (q_Fx.rf x.2)
      refine q_iload_n 2 rfl rfl dX3_firstFault_58 ?_
      refine q_istore [(5, .int y2), (0, .ref 81), (1, .int y1), (2, .int y2), (3, .int y3), (4, .int x.1)] (by decide) rfl dX3_firstFault_59 ?_
      refine q_sub [1, 2, 3, 4, 5, 0] rfl ?_
      exact usX3_firstFault_61 (w.fx fx30) hp (aH.fx fx30) h hQ
theorem lX3_firstFault_39 {g : QG} {Q : Option Value → QS → Prop} {p : Nat} {y1 : Int32} {y2 : Int32} {y3 : Int32} {r : Int32 × QS} (hp : q_pok p) (hQ : Q (some (.int r.1)) r.2) : ∀ (c : Nat) (x : Int32 × QS), q_Wire x.2 → q_aH x.2 p → q_it (tX3_firstFault_39 p y1 y2 y3) c x = some r → q_L g mX3_firstFault 3 0 0 Q 0 0 39 [(0, .ref 81), (1, .int y1), (2, .int y2), (3, .int y3), (4, .int x.1)] [] x.2 := by
  intro c
  induction c with
  | zero => intro x w aH h; cases h
  | succ c ih =>
    intro x w aH h
    simp only [q_it] at h
    cases hz : tX3_firstFault_39 p y1 y2 y3 x with
    | none => rw [hz] at h; cases h
    | some z =>
      rw [hz] at h
      refine sX3_firstFault_39 w hp aH hz ?_
      rcases z with z | y
      · cases h; exact hQ
      · have fz := fxtX3_firstFault_39 hz; exact ih y (w.fx fz) (aH.fx fz) h
theorem kX3_firstFault_39 {S : QS} {g : QG} {Q : Option Value → QS → Prop} {p : Nat} {y1 : Int32} {y2 : Int32} {y3 : Int32} {y4 : Int32} {r : Int32 × QS} (w : q_Wire S) (hp : q_pok p) (aH : q_aH S p) (h : fX3_firstFault_39 S p y1 y2 y3 y4 = some r) (hQ : Q (some (.int r.1)) r.2) : q_L g mX3_firstFault 3 0 0 Q 0 0 39 [(0, .ref 81), (1, .int y1), (2, .int y2), (3, .int y3), (4, .int y4)] [] S := by
  obtain ⟨c, hc⟩ := q_run_it h
  exact lX3_firstFault_39 hp hQ c (y4, S) w aH hc
set_option maxRecDepth 20000 in
theorem kX3_firstFault {S : QS} {g : QG} {Q : Option Value → QS → Prop} {p : Nat} {x1 : Int32} {r : Int32 × QS} (w : q_Wire S) (hp : q_pok p) (aH : q_aH S p) (h : fX3_firstFault S p x1 = some r) (hQ : Q (some (.int r.1)) r.2) : q_M g mX3_firstFault 3 0 0 [.ref 81, .int x1] S Q := by
  unfold fX3_firstFault at h
  show q_L g mX3_firstFault 3 0 0 Q 0 0 0 [(0, .ref 81), (1, .int x1)] [] S
  refine q_aload_n 0 rfl rfl dX3_firstFault_0 ?_
  refine q_getR (q_sh81 w) (by decide) (by decide) rfl lfX3_19 dX3_firstFault_1 (r := p) (aH).1 ?_
  refine q_getRN (q_shP0 w hp) (by decide) (by decide) rfl lfX3_30 dX3_firstFault_4 (r := (p + 29)) (q_wrP0_10 w hp) ?_
  refine q_iload_n 1 rfl rfl dX3_firstFault_7 ?_
  obtain ⟨hg31, h⟩ := q_guard h
  refine q_iald (q_shP29 w hp) (q_inb_in hg31) dX3_firstFault_8 ?_
  refine q_istore_n [(2, .int (S.2.1 (p + 29) x1.toNatClampNeg)), (0, .ref 81), (1, .int x1)] rfl (by decide) rfl dX3_firstFault_9 ?_
  refine q_aload_n 1 rfl rfl dX3_firstFault_10 ?_
  refine q_getR (q_sh81 w) (by decide) (by decide) rfl lfX3_19 dX3_firstFault_11 (r := p) (aH).1 ?_
  refine q_getRN (q_shP0 w hp) (by decide) (by decide) rfl lfX3_33 dX3_firstFault_14 (r := (p + 30)) (q_wrP0_11 w hp) ?_
  refine q_iload_n 2 rfl rfl dX3_firstFault_17 ?_
  obtain ⟨hg32, h⟩ := q_guard h
  refine q_iald (q_shP30 w hp) (q_inb_in hg32) dX3_firstFault_18 ?_
  refine q_istore_n [(3, .int (S.2.1 (p + 30) x1.toNatClampNeg)), (2, .int (S.2.1 (p + 29) x1.toNatClampNeg)), (0, .ref 81), (1, .int x1)] rfl (by decide) rfl dX3_firstFault_19 ?_
  refine q_aload_n 2 rfl rfl dX3_firstFault_20 ?_
  refine q_getR (q_sh81 w) (by decide) (by decide) rfl lfX3_9 dX3_firstFault_21 (r := 82) (q_wr81_2 w) ?_
  refine q_iload_n 1 rfl rfl dX3_firstFault_24 ?_
  refine q_iload_n 0 rfl rfl dX3_firstFault_25 ?_
  refine q_iconst (v := (0 : Int32)) (by decide) dX3_firstFault_26 ?_
  obtain ⟨r33, e34, h⟩ := q_bind h
  refine q_callS (d := 2) (Mc := mJ7_fill_fda19) (kc := 0) (nc := 0) [.ref 82, .int (S.2.1 (p + 29) x1.toNatClampNeg), .int (S.2.1 (p + 30) x1.toNatClampNeg), .int (0 : Int32)] okJ7_fill_fda19 lmX3_36 inJ7_fill_fda19 rfl (Nat.le_of_ble_eq_true rfl) (Nat.le_of_ble_eq_true rfl) (Nat.le_refl _) (Nat.le_refl _) dX3_firstFault_27 (q_L.deep (by decide) (kJ7_fill_fda19 (Q := fun r S' => r = none ∧ S' = r33) w (q_sh82 w) e34 ⟨rfl, rfl⟩)) (q_kV ?_)
  have fx35 : q_Fx S r33 := q_Fx.tr (q_Fx.rf S) (fxJ7_fill_fda19 e34)
  refine q_aload_n 2 rfl rfl dX3_firstFault_30 ?_
  refine q_iload_n 1 rfl rfl dX3_firstFault_31 ?_
  refine q_iconst (v := (1 : Int32)) (by decide) dX3_firstFault_32 ?_
  obtain ⟨r36, e37, h⟩ := q_bind h
  refine q_callV (ci := 3) (d := 2) (Mc := mX3_arrive) (kc := 0) (nc := 0) [.int (S.2.1 (p + 29) x1.toNatClampNeg), .int (1 : Int32)] okX3_arrive (q_sh81 (w.fx fx35)) (by decide) rfl lmX3_42 inX3_arrive seX3_arrive rfl (Nat.le_of_ble_eq_true rfl) (Nat.le_of_ble_eq_true rfl) (Nat.le_refl _) (Nat.le_refl _) dX3_firstFault_33 (q_L.deep (by decide) (kX3_arrive (Q := fun r S' => r = none ∧ S' = r36) (w.fx fx35) hp (aH.fx fx35) e37 ⟨rfl, rfl⟩)) (q_kV ?_)
  have fx38 : q_Fx S r36 := q_Fx.tr (fx35) (fxX3_arrive e37)
  refine q_iconst (v := (0 : Int32)) (by decide) dX3_firstFault_36 ?_
  refine q_istore [(4, .int (0 : Int32)), (3, .int (S.2.1 (p + 30) x1.toNatClampNeg)), (2, .int (S.2.1 (p + 29) x1.toNatClampNeg)), (0, .ref 81), (1, .int x1)] (by decide) rfl dX3_firstFault_37 ?_
  refine q_sub [3, 4, 2, 1, 0] rfl ?_
  exact kX3_firstFault_39 (w.fx fx38) hp (aH.fx fx38) h hQ
