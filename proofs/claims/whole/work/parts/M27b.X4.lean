set_option maxRecDepth 20000 in
theorem sX4_beginBody_68 {g : QG} {Q : Option Value → QS → Prop} {p : Nat}  {x : Int32 × QS} {z : (QS) ⊕ (Int32 × QS)} (w : q_Wire x.2) (hp : q_pok p) (aN : q_aN x.2 p) (h : tX4_beginBody_68 p x = some z) (hQ : (Sum.elim (fun r0 : QS => Q none r0) (fun y : Int32 × QS => q_L g mX4_beginBody 0 0 0 Q 0 0 68 [(0, .ref 78), (2, .int y.1)] [] y.2) z)) : q_L g mX4_beginBody 0 0 0 Q 0 0 68 [(0, .ref 78), (2, .int x.1)] [] x.2 := by
  unfold tX4_beginBody_68 at h
  refine q_iload_n 1 rfl rfl dX4_beginBody_68 ?_
  refine q_aload_n 0 rfl rfl dX4_beginBody_69 ?_
  refine q_getR (q_sh78 w) (by decide) (by decide) rfl lfX4_18 dX4_beginBody_70 (r := 2) (q_wr78_0 w) ?_
  refine q_getIN (q_sh2 w) (by decide) (by decide) rfl lfX4_41 dX4_beginBody_73 ?_
  refine q_icmp_ge 185 (by decide) dX4_beginBody_76 (fun c => ?_) (fun c => ?_)
  · rw [if_pos c] at h
    cases h
    exact q_vret rfl dX4_beginBody_185 hQ
  · rw [if_neg c] at h
    refine q_aload_n 0 rfl rfl dX4_beginBody_79 ?_
    refine q_getR (q_sh78 w) (by decide) (by decide) rfl lfX4_18 dX4_beginBody_80 (r := 2) (q_wr78_0 w) ?_
    refine q_getRN (q_sh2 w) (by decide) (by decide) rfl lfX4_47 dX4_beginBody_83 (r := 6) (q_wr2_4 w) ?_
    refine q_iload_n 1 rfl rfl dX4_beginBody_86 ?_
    obtain ⟨hg1, h⟩ := q_guard h
    refine q_bald (q_sh6 w) (q_inb_in hg1) dX4_beginBody_87 ?_
    refine q_bipush (v := (52 : Int32)) (by decide) dX4_beginBody_88 ?_
    refine q_icmp_eq 185 (by decide) dX4_beginBody_90 (fun c => ?_) (fun c => ?_)
    · rw [if_pos c] at h
      cases h
      exact q_vret rfl dX4_beginBody_185 hQ
    · rw [if_neg c] at h
      refine q_aload_n 0 rfl rfl dX4_beginBody_93 ?_
      refine q_getR (q_sh78 w) (by decide) (by decide) rfl lfX4_18 dX4_beginBody_94 (r := 2) (q_wr78_0 w) ?_
      refine q_getRN (q_sh2 w) (by decide) (by decide) rfl lfX4_47 dX4_beginBody_97 (r := 6) (q_wr2_4 w) ?_
      refine q_iload_n 1 rfl rfl dX4_beginBody_100 ?_
      obtain ⟨hg2, h⟩ := q_guard h
      refine q_bald (q_sh6 w) (q_inb_in hg2) dX4_beginBody_101 ?_
      refine q_bipush (v := (47 : Int32)) (by decide) dX4_beginBody_102 ?_
      refine q_icmp_ne 155 (by decide) dX4_beginBody_104 (fun c => ?_) (fun c => ?_)
      · rw [if_neg c] at h
        refine q_aload_n 0 rfl rfl dX4_beginBody_155 ?_
        refine q_getR (q_sh78 w) (by decide) (by decide) rfl lfX4_18 dX4_beginBody_156 (r := 2) (q_wr78_0 w) ?_
        refine q_getRN (q_sh2 w) (by decide) (by decide) rfl lfX4_47 dX4_beginBody_159 (r := 6) (q_wr2_4 w) ?_
        refine q_iload_n 1 rfl rfl dX4_beginBody_162 ?_
        obtain ⟨hg3, h⟩ := q_guard h
        refine q_bald (q_sh6 w) (q_inb_in hg3) dX4_beginBody_163 ?_
        refine q_bipush (v := (46 : Int32)) (by decide) dX4_beginBody_164 ?_
        refine q_icmp_ge 179 (by decide) dX4_beginBody_166 (fun c => ?_) (fun c => ?_)
        · rw [if_pos c] at h
          refine q_iinc (v := (x.1 + (1 : Int32))) 1 [(2, .int (x.1 + (1 : Int32))), (0, .ref 78)] (by decide) rfl (congrArg (fun t => x.1 + t) (by decide)) rfl dX4_beginBody_179 ?_
          refine q_goto 68 (by decide) dX4_beginBody_182 ?_
          refine q_sub [1, 0] rfl ?_
          cases h
          exact hQ
        · rw [if_neg c] at h
          refine q_aload_n 0 rfl rfl dX4_beginBody_169 ?_
          refine q_dup rfl dX4_beginBody_170 ?_
          refine q_getI (q_sh78 w) (by decide) (by decide) rfl lfX4_187 dX4_beginBody_171 ?_
          refine q_iconst (v := (1 : Int32)) (by decide) dX4_beginBody_174 ?_
          refine q_iadd dX4_beginBody_175 ?_
          refine q_putI (q_sh78 w) (by decide) (by decide) rfl rfl ⟨rfl, rfl⟩ lfX4_187 dX4_beginBody_176 ?_
          obtain ⟨S4, e5, h⟩ := q_bindS h
          refine q_st e5 ?_
          have fx6 : q_Fx x.2 S4 := e5 ▸ q_Fx.sI (q_Fx.rf x.2)
          refine q_iinc (v := (x.1 + (1 : Int32))) 1 [(2, .int (x.1 + (1 : Int32))), (0, .ref 78)] (by decide) rfl (congrArg (fun t => x.1 + t) (by decide)) rfl dX4_beginBody_179 ?_
          refine q_goto 68 (by decide) dX4_beginBody_182 ?_
          refine q_sub [1, 0] rfl ?_
          cases h
          exact hQ
      · rw [if_pos c] at h
        refine q_aload_n 0 rfl rfl dX4_beginBody_107 ?_
        refine q_getI (q_sh78 w) (by decide) (by decide) rfl lfX4_184 dX4_beginBody_108 ?_
        refine q_aload_n 0 rfl rfl dX4_beginBody_111 ?_
        refine q_getR (q_sh78 w) (by decide) (by decide) rfl lfX4_9 dX4_beginBody_112 (r := 79) (q_wr78_4 w) ?_
        refine q_alen (q_sh79 w) (by decide) dX4_beginBody_115 ?_
        refine q_icmp_ge 155 (by decide) dX4_beginBody_116 (fun c => ?_) (fun c => ?_)
        · rw [if_pos c] at h
          refine q_aload_n 0 rfl rfl dX4_beginBody_155 ?_
          refine q_getR (q_sh78 w) (by decide) (by decide) rfl lfX4_18 dX4_beginBody_156 (r := 2) (q_wr78_0 w) ?_
          refine q_getRN (q_sh2 w) (by decide) (by decide) rfl lfX4_47 dX4_beginBody_159 (r := 6) (q_wr2_4 w) ?_
          refine q_iload_n 1 rfl rfl dX4_beginBody_162 ?_
          obtain ⟨hg7, h⟩ := q_guard h
          refine q_bald (q_sh6 w) (q_inb_in hg7) dX4_beginBody_163 ?_
          refine q_bipush (v := (46 : Int32)) (by decide) dX4_beginBody_164 ?_
          refine q_icmp_ge 179 (by decide) dX4_beginBody_166 (fun c => ?_) (fun c => ?_)
          · rw [if_pos c] at h
            refine q_iinc (v := (x.1 + (1 : Int32))) 1 [(2, .int (x.1 + (1 : Int32))), (0, .ref 78)] (by decide) rfl (congrArg (fun t => x.1 + t) (by decide)) rfl dX4_beginBody_179 ?_
            refine q_goto 68 (by decide) dX4_beginBody_182 ?_
            refine q_sub [1, 0] rfl ?_
            cases h
            exact hQ
          · rw [if_neg c] at h
            refine q_aload_n 0 rfl rfl dX4_beginBody_169 ?_
            refine q_dup rfl dX4_beginBody_170 ?_
            refine q_getI (q_sh78 w) (by decide) (by decide) rfl lfX4_187 dX4_beginBody_171 ?_
            refine q_iconst (v := (1 : Int32)) (by decide) dX4_beginBody_174 ?_
            refine q_iadd dX4_beginBody_175 ?_
            refine q_putI (q_sh78 w) (by decide) (by decide) rfl rfl ⟨rfl, rfl⟩ lfX4_187 dX4_beginBody_176 ?_
            obtain ⟨S8, e9, h⟩ := q_bindS h
            refine q_st e9 ?_
            have fx10 : q_Fx x.2 S8 := e9 ▸ q_Fx.sI (q_Fx.rf x.2)
            refine q_iinc (v := (x.1 + (1 : Int32))) 1 [(2, .int (x.1 + (1 : Int32))), (0, .ref 78)] (by decide) rfl (congrArg (fun t => x.1 + t) (by decide)) rfl dX4_beginBody_179 ?_
            refine q_goto 68 (by decide) dX4_beginBody_182 ?_
            refine q_sub [1, 0] rfl ?_
            cases h
            exact hQ
        · rw [if_neg c] at h
          refine q_aload_n 0 rfl rfl dX4_beginBody_119 ?_
          refine q_getR (q_sh78 w) (by decide) (by decide) rfl lfX4_9 dX4_beginBody_120 (r := 79) (q_wr78_4 w) ?_
          refine q_aload_n 0 rfl rfl dX4_beginBody_123 ?_
          refine q_getI (q_sh78 w) (by decide) (by decide) rfl lfX4_184 dX4_beginBody_124 ?_
          refine q_iload_n 1 rfl rfl dX4_beginBody_127 ?_
          obtain ⟨hg11, h⟩ := q_guard h
          refine q_iast (q_sh79 w) (q_inb_in hg11) dX4_beginBody_128 ?_
          obtain ⟨S12, e13, h⟩ := q_bindS h
          refine q_st e13 ?_
          have fx14 : q_Fx x.2 S12 := e13 ▸ q_Fx.sI (q_Fx.rf x.2)
          refine q_aload_n 0 rfl rfl dX4_beginBody_129 ?_
          refine q_getR (q_sh78 (w.fx fx14)) (by decide) (by decide) rfl lfX4_15 dX4_beginBody_130 (r := 80) (q_wr78_5 (w.fx fx14)) ?_
          refine q_aload_n 0 rfl rfl dX4_beginBody_133 ?_
          refine q_getI (q_sh78 (w.fx fx14)) (by decide) (by decide) rfl lfX4_184 dX4_beginBody_134 ?_
          refine q_aload_n 0 rfl rfl dX4_beginBody_137 ?_
          refine q_getI (q_sh78 (w.fx fx14)) (by decide) (by decide) rfl lfX4_187 dX4_beginBody_138 ?_
          obtain ⟨hg15, h⟩ := q_guard h
          refine q_iast (q_sh80 (w.fx fx14)) (q_inb_in hg15) dX4_beginBody_141 ?_
          obtain ⟨S16, e17, h⟩ := q_bindS h
          refine q_st e17 ?_
          have fx18 : q_Fx x.2 S16 := e17 ▸ q_Fx.sI (fx14)
          refine q_aload_n 0 rfl rfl dX4_beginBody_142 ?_
          refine q_dup rfl dX4_beginBody_143 ?_
          refine q_getI (q_sh78 (w.fx fx18)) (by decide) (by decide) rfl lfX4_184 dX4_beginBody_144 ?_
          refine q_iconst (v := (1 : Int32)) (by decide) dX4_beginBody_147 ?_
          refine q_iadd dX4_beginBody_148 ?_
          refine q_putI (q_sh78 (w.fx fx18)) (by decide) (by decide) rfl rfl ⟨rfl, rfl⟩ lfX4_184 dX4_beginBody_149 ?_
          obtain ⟨S19, e20, h⟩ := q_bindS h
          refine q_st e20 ?_
          have fx21 : q_Fx x.2 S19 := e20 ▸ q_Fx.sI (fx18)
          refine q_goto 179 (by decide) dX4_beginBody_152 ?_
          refine q_iinc (v := (x.1 + (1 : Int32))) 1 [(2, .int (x.1 + (1 : Int32))), (0, .ref 78)] (by decide) rfl (congrArg (fun t => x.1 + t) (by decide)) rfl dX4_beginBody_179 ?_
          refine q_goto 68 (by decide) dX4_beginBody_182 ?_
          refine q_sub [1, 0] rfl ?_
          cases h
          exact hQ
theorem lX4_beginBody_68 {g : QG} {Q : Option Value → QS → Prop} {p : Nat}  {r : QS} (hp : q_pok p) (hQ : Q none r) : ∀ (c : Nat) (x : Int32 × QS), q_Wire x.2 → q_aN x.2 p → q_it (tX4_beginBody_68 p) c x = some r → q_L g mX4_beginBody 0 0 0 Q 0 0 68 [(0, .ref 78), (2, .int x.1)] [] x.2 := by
  intro c
  induction c with
  | zero => intro x w aN h; cases h
  | succ c ih =>
    intro x w aN h
    simp only [q_it] at h
    cases hz : tX4_beginBody_68 p x with
    | none => rw [hz] at h; cases h
    | some z =>
      rw [hz] at h
      refine sX4_beginBody_68 w hp aN hz ?_
      rcases z with z | y
      · cases h; exact hQ
      · have fz := fxtX4_beginBody_68 hz; exact ih y (w.fx fz) (aN.fx fz) h
theorem kX4_beginBody_68 {S : QS} {g : QG} {Q : Option Value → QS → Prop} {p : Nat} {y2 : Int32} {r : QS} (w : q_Wire S) (hp : q_pok p) (aN : q_aN S p) (h : fX4_beginBody_68 S p y2 = some r) (hQ : Q none r) : q_L g mX4_beginBody 0 0 0 Q 0 0 68 [(0, .ref 78), (2, .int y2)] [] S := by
  obtain ⟨c, hc⟩ := q_run_it h
  exact lX4_beginBody_68 hp hQ c (y2, S) w aN hc
set_option maxRecDepth 20000 in
theorem kX4_beginBody {S : QS} {g : QG} {Q : Option Value → QS → Prop} {p : Nat} {x1 : Int32} {r : QS} (w : q_Wire S) (hp : q_pok p) (aN : q_aN S p) (h : fX4_beginBody S p x1 = some r) (hQ : Q none r) : q_M g mX4_beginBody 0 0 0 [.ref 78, .int x1] S Q := by
  unfold fX4_beginBody at h
  show q_L g mX4_beginBody 0 0 0 Q 0 0 0 [(0, .ref 78), (1, .int x1)] [] S
  refine q_aload_n 0 rfl rfl dX4_beginBody_0 ?_
  refine q_dup rfl dX4_beginBody_1 ?_
  refine q_getI (q_sh78 w) (by decide) (by decide) rfl lfX4_150 dX4_beginBody_2 ?_
  refine q_iconst (v := (1 : Int32)) (by decide) dX4_beginBody_5 ?_
  refine q_iadd dX4_beginBody_6 ?_
  refine q_putI (q_sh78 w) (by decide) (by decide) rfl rfl ⟨rfl, rfl⟩ lfX4_150 dX4_beginBody_7 ?_
  obtain ⟨S22, e23, h⟩ := q_bindS h
  refine q_st e23 ?_
  have fx24 : q_Fx S S22 := e23 ▸ q_Fx.sI (q_Fx.rf S)
  refine q_aload_n 0 rfl rfl dX4_beginBody_10 ?_
  refine q_getR (q_sh78 (w.fx fx24)) (by decide) (by decide) rfl lfX4_22 dX4_beginBody_11 (r := p) (aN.fx fx24).1 ?_
  refine q_getRN (q_shP0 (w.fx fx24) hp) (by decide) (by decide) rfl lfX4_172 dX4_beginBody_14 (r := (p + 29)) (q_wrP0_10 (w.fx fx24) hp) ?_
  refine q_aload_n 0 rfl rfl dX4_beginBody_17 ?_
  refine q_getI (q_sh78 (w.fx fx24)) (by decide) (by decide) rfl lfX4_150 dX4_beginBody_18 ?_
  refine q_aload_n 0 rfl rfl dX4_beginBody_21 ?_
  refine q_getR (q_sh78 (w.fx fx24)) (by decide) (by decide) rfl lfX4_37 dX4_beginBody_22 (r := (p + 10)) (aN.fx fx24).2.2 ?_
  refine q_getIN (q_shP10 (w.fx fx24) hp) (by decide) (by decide) rfl lfX4_175 dX4_beginBody_25 ?_
  obtain ⟨hg25, h⟩ := q_guard h
  refine q_iast (q_shP29 (w.fx fx24) hp) (q_inb_in hg25) dX4_beginBody_28 ?_
  obtain ⟨S26, e27, h⟩ := q_bindS h
  refine q_st e27 ?_
  have fx28 : q_Fx S S26 := e27 ▸ q_Fx.sI (fx24)
  refine q_aload_n 0 rfl rfl dX4_beginBody_29 ?_
  refine q_getR (q_sh78 (w.fx fx28)) (by decide) (by decide) rfl lfX4_22 dX4_beginBody_30 (r := p) (aN.fx fx28).1 ?_
  refine q_getRN (q_shP0 (w.fx fx28) hp) (by decide) (by decide) rfl lfX4_178 dX4_beginBody_33 (r := (p + 31)) (q_wrP0_12 (w.fx fx28) hp) ?_
  refine q_aload_n 0 rfl rfl dX4_beginBody_36 ?_
  refine q_getI (q_sh78 (w.fx fx28)) (by decide) (by decide) rfl lfX4_150 dX4_beginBody_37 ?_
  refine q_aload_n 0 rfl rfl dX4_beginBody_40 ?_
  refine q_getR (q_sh78 (w.fx fx28)) (by decide) (by decide) rfl lfX4_37 dX4_beginBody_41 (r := (p + 10)) (aN.fx fx28).2.2 ?_
  refine q_getIN (q_shP10 (w.fx fx28) hp) (by decide) (by decide) rfl lfX4_181 dX4_beginBody_44 ?_
  obtain ⟨hg29, h⟩ := q_guard h
  refine q_iast (q_shP31 (w.fx fx28) hp) (q_inb_in hg29) dX4_beginBody_47 ?_
  obtain ⟨S30, e31, h⟩ := q_bindS h
  refine q_st e31 ?_
  have fx32 : q_Fx S S30 := e31 ▸ q_Fx.sI (fx28)
  refine q_aload_n 0 rfl rfl dX4_beginBody_48 ?_
  refine q_iconst (v := (0 : Int32)) (by decide) dX4_beginBody_49 ?_
  refine q_putI (q_sh78 (w.fx fx32)) (by decide) (by decide) rfl rfl ⟨rfl, rfl⟩ lfX4_184 dX4_beginBody_50 ?_
  obtain ⟨S33, e34, h⟩ := q_bindS h
  refine q_st e34 ?_
  have fx35 : q_Fx S S33 := e34 ▸ q_Fx.sI (fx32)
  refine q_aload_n 0 rfl rfl dX4_beginBody_53 ?_
  refine q_aload_n 0 rfl rfl dX4_beginBody_54 ?_
  refine q_getR (q_sh78 (w.fx fx35)) (by decide) (by decide) rfl lfX4_37 dX4_beginBody_55 (r := (p + 10)) (aN.fx fx35).2.2 ?_
  refine q_getIN (q_shP10 (w.fx fx35) hp) (by decide) (by decide) rfl lfX4_175 dX4_beginBody_58 ?_
  refine q_putI (q_sh78 (w.fx fx35)) (by decide) (by decide) rfl rfl ⟨rfl, rfl⟩ lfX4_187 dX4_beginBody_61 ?_
  obtain ⟨S36, e37, h⟩ := q_bindS h
  refine q_st e37 ?_
  have fx38 : q_Fx S S36 := e37 ▸ q_Fx.sI (fx35)
  refine q_iload_n 1 rfl rfl dX4_beginBody_64 ?_
  refine q_iconst (v := (1 : Int32)) (by decide) dX4_beginBody_65 ?_
  refine q_iadd dX4_beginBody_66 ?_
  refine q_istore_n [(2, .int (x1 + (1 : Int32))), (0, .ref 78), (1, .int x1)] rfl (by decide) rfl dX4_beginBody_67 ?_
  refine q_sub [1, 0] rfl ?_
  exact kX4_beginBody_68 (w.fx fx38) hp (aN.fx fx38) h hQ
set_option maxRecDepth 20000 in
theorem sX4_labelNamed_21 {S : QS} {g : QG} {Q : Option Value → QS → Prop}  {y2 : Int32} {y3 : Int32} {x : Int32} {z : (Int32) ⊕ (Int32)} (w : q_Wire S) (h : tX4_labelNamed_21 S y2 y3 x = some z) (hQ : (Sum.elim (fun r0 : Int32 => Q (some (.int r0)) S) (fun y : Int32 => q_L g mX4_labelNamed 1 0 0 Q 0 0 21 [(0, .ref 78), (2, .int y2), (3, .int y3), (4, .int y)] [] S) z)) : q_L g mX4_labelNamed 1 0 0 Q 0 0 21 [(0, .ref 78), (2, .int y2), (3, .int y3), (4, .int x)] [] S := by
  unfold tX4_labelNamed_21 at h
  refine q_iload 3 rfl dX4_labelNamed_21 ?_
  refine q_aload_n 0 rfl rfl dX4_labelNamed_23 ?_
  refine q_getI (q_sh78 w) (by decide) (by decide) rfl lfX4_184 dX4_labelNamed_24 ?_
  refine q_icmp_ge 58 (by decide) dX4_labelNamed_27 (fun c => ?_) (fun c => ?_)
  · rw [if_pos c] at h
    refine q_iconst (v := (-1 : Int32)) (by decide) dX4_labelNamed_58 ?_
    cases h
    exact q_iret rfl rfl dX4_labelNamed_59 hQ
  · rw [if_neg c] at h
    refine q_aload_n 0 rfl rfl dX4_labelNamed_30 ?_
    refine q_getR (q_sh78 w) (by decide) (by decide) rfl lfX4_18 dX4_labelNamed_31 (r := 2) (q_wr78_0 w) ?_
    refine q_aload_n 0 rfl rfl dX4_labelNamed_34 ?_
    refine q_getR (q_sh78 w) (by decide) (by decide) rfl lfX4_9 dX4_labelNamed_35 (r := 79) (q_wr78_4 w) ?_
    refine q_iload 3 rfl dX4_labelNamed_38 ?_
    obtain ⟨hg1, h⟩ := q_guard h
    refine q_iald (q_sh79 w) (q_inb_in hg1) dX4_labelNamed_40 ?_
    refine q_iload_n 1 rfl rfl dX4_labelNamed_41 ?_
    refine q_iload_n 2 rfl rfl dX4_labelNamed_42 ?_
    obtain ⟨r2, e3, h⟩ := q_bind h
    refine q_callV (ci := 8) (d := 0) (Mc := mX8_same) (kc := 0) (nc := 0) [.int (S.2.1 79 x.toNatClampNeg), .int y2, .int y3] okX8_same (q_sh2 w) (by decide) rfl lmX4_147 inX8_same seX8_same rfl (Nat.le_of_ble_eq_true rfl) (Nat.le_of_ble_eq_true rfl) (Nat.le_refl _) (Nat.le_refl _) dX4_labelNamed_43 (q_L.deep (by decide) (kX8_same (Q := fun r S' => r = some (.int (q_b r2)) ∧ S' = S) w e3 ⟨rfl, rfl⟩)) (q_kI ?_)
    refine q_if_eq 52 (by decide) dX4_labelNamed_46 (fun c => ?_) (fun c => ?_)
    · have c := q_b_0.mp c; rw [q_if0 c] at h
      refine q_iinc (v := (x + (1 : Int32))) 3 [(4, .int (x + (1 : Int32))), (0, .ref 78), (2, .int y2), (3, .int y3)] (by decide) rfl (congrArg (fun t => x + t) (by decide)) rfl dX4_labelNamed_52 ?_
      refine q_goto 21 (by decide) dX4_labelNamed_55 ?_
      refine q_sub [1, 2, 3, 0] rfl ?_
      cases h
      exact hQ
    · have c := q_b_n.mp c; rw [q_if1 c] at h
      refine q_iload 3 rfl dX4_labelNamed_49 ?_
      cases h
      exact q_iret rfl rfl dX4_labelNamed_51 hQ
theorem lX4_labelNamed_21 {S : QS} {g : QG} {Q : Option Value → QS → Prop}  {y2 : Int32} {y3 : Int32} {r : Int32} (w : q_Wire S) (hQ : Q (some (.int r)) S) : ∀ (c : Nat) (x : Int32), q_it (tX4_labelNamed_21 S y2 y3) c x = some r → q_L g mX4_labelNamed 1 0 0 Q 0 0 21 [(0, .ref 78), (2, .int y2), (3, .int y3), (4, .int x)] [] S := by
  intro c
  induction c with
  | zero => intro x  h; cases h
  | succ c ih =>
    intro x  h
    simp only [q_it] at h
    cases hz : tX4_labelNamed_21 S y2 y3 x with
    | none => rw [hz] at h; cases h
    | some z =>
      rw [hz] at h
      refine sX4_labelNamed_21 w hz ?_
      rcases z with z | y
      · cases h; exact hQ
      · exact ih y  h
theorem kX4_labelNamed_21 {S : QS} {g : QG} {Q : Option Value → QS → Prop}  {y2 : Int32} {y3 : Int32} {y4 : Int32} {r : Int32} (w : q_Wire S) (h : fX4_labelNamed_21 S y2 y3 y4 = some r) (hQ : Q (some (.int r)) S) : q_L g mX4_labelNamed 1 0 0 Q 0 0 21 [(0, .ref 78), (2, .int y2), (3, .int y3), (4, .int y4)] [] S := by
  obtain ⟨c, hc⟩ := q_run_it h
  exact lX4_labelNamed_21 w hQ c y4  hc
set_option maxRecDepth 20000 in
theorem kX4_labelNamed {S : QS} {g : QG} {Q : Option Value → QS → Prop}  {x1 : Int32} {r : Int32} (w : q_Wire S) (h : fX4_labelNamed S x1 = some r) (hQ : Q (some (.int r)) S) : q_M g mX4_labelNamed 1 0 0 [.ref 78, .int x1] S Q := by
  unfold fX4_labelNamed at h
  show q_L g mX4_labelNamed 1 0 0 Q 0 0 0 [(0, .ref 78), (1, .int x1)] [] S
  refine q_aload_n 0 rfl rfl dX4_labelNamed_0 ?_
  refine q_getR (q_sh78 w) (by decide) (by decide) rfl lfX4_18 dX4_labelNamed_1 (r := 2) (q_wr78_0 w) ?_
  refine q_iload_n 1 rfl rfl dX4_labelNamed_4 ?_
  obtain ⟨r4, e5, h⟩ := q_bind h
  refine q_callV (ci := 8) (d := 0) (Mc := mX8_start) (kc := 0) (nc := 0) [.int x1] okX8_start (q_sh2 w) (by decide) rfl lmX4_75 inX8_start seX8_start rfl (Nat.le_of_ble_eq_true rfl) (Nat.le_of_ble_eq_true rfl) (Nat.le_refl _) (Nat.le_refl _) dX4_labelNamed_5 (q_L.deep (by decide) (kX8_start (Q := fun r S' => r = some (.int r4) ∧ S' = S) w e5 ⟨rfl, rfl⟩)) (q_kI ?_)
  refine q_istore_n [(2, .int r4), (0, .ref 78), (1, .int x1)] rfl (by decide) rfl dX4_labelNamed_8 ?_
  refine q_aload_n 1 rfl rfl dX4_labelNamed_9 ?_
  refine q_getR (q_sh78 w) (by decide) (by decide) rfl lfX4_18 dX4_labelNamed_10 (r := 2) (q_wr78_0 w) ?_
  refine q_iload_n 2 rfl rfl dX4_labelNamed_13 ?_
  obtain ⟨r6, e7, h⟩ := q_bind h
  refine q_callV (ci := 8) (d := 0) (Mc := mX8_stop) (kc := 0) (nc := 0) [.int x1] okX8_stop (q_sh2 w) (by decide) rfl lmX4_78 inX8_stop seX8_stop rfl (Nat.le_of_ble_eq_true rfl) (Nat.le_of_ble_eq_true rfl) (Nat.le_refl _) (Nat.le_refl _) dX4_labelNamed_14 (q_L.deep (by decide) (kX8_stop (Q := fun r S' => r = some (.int r6) ∧ S' = S) w e7 ⟨rfl, rfl⟩)) (q_kI ?_)
  refine q_istore_n [(3, .int r6), (2, .int r4), (0, .ref 78), (1, .int x1)] rfl (by decide) rfl dX4_labelNamed_17 ?_
  refine q_iconst (v := (0 : Int32)) (by decide) dX4_labelNamed_18 ?_
  refine q_istore [(4, .int (0 : Int32)), (3, .int r6), (2, .int r4), (0, .ref 78), (1, .int x1)] (by decide) rfl dX4_labelNamed_19 ?_
  refine q_sub [3, 2, 1, 0] rfl ?_
  exact kX4_labelNamed_21 w h hQ
set_option maxRecDepth 20000 in
theorem kX4_isFirstLabel {S : QS} {g : QG} {Q : Option Value → QS → Prop}  {x1 : Int32} {r : Bool} (w : q_Wire S) (h : fX4_isFirstLabel S x1 = some r) (hQ : Q (some (.int (q_b r))) S) : q_M g mX4_isFirstLabel 2 0 0 [.ref 78, .int x1] S Q := by
  unfold fX4_isFirstLabel at h
  show q_L g mX4_isFirstLabel 2 0 0 Q 0 0 0 [(0, .ref 78), (1, .int x1)] [] S
  refine q_aload_n 0 rfl rfl dX4_isFirstLabel_0 ?_
  refine q_iload_n 1 rfl rfl dX4_isFirstLabel_1 ?_
  obtain ⟨r1, e2, h⟩ := q_bind h
  refine q_callV (ci := 4) (d := 1) (Mc := mX4_labelNamed) (kc := 0) (nc := 0) [.int x1] okX4_labelNamed (q_sh78 w) (by decide) rfl lmX4_189 inX4_labelNamed seX4_labelNamed rfl (Nat.le_of_ble_eq_true rfl) (Nat.le_of_ble_eq_true rfl) (Nat.le_refl _) (Nat.le_refl _) dX4_isFirstLabel_2 (q_L.deep (by decide) (kX4_labelNamed (Q := fun r S' => r = some (.int r1) ∧ S' = S) w e2 ⟨rfl, rfl⟩)) (q_kI ?_)
  refine q_istore_n [(2, .int r1), (0, .ref 78), (1, .int x1)] rfl (by decide) rfl dX4_isFirstLabel_5 ?_
  refine q_iload_n 0 rfl rfl dX4_isFirstLabel_6 ?_
  refine q_iconst (v := (-1 : Int32)) (by decide) dX4_isFirstLabel_7 ?_
  refine q_icmp_eq 25 (by decide) dX4_isFirstLabel_8 (fun c => ?_) (fun c => ?_)
  · rw [if_pos c] at h
    refine q_iconst (v := (0 : Int32)) (by decide) dX4_isFirstLabel_25 ?_
    obtain rfl := Option.some.inj h
    exact q_iret rfl (by decide) dX4_isFirstLabel_26 hQ
  · rw [if_neg c] at h
    refine q_aload_n 1 rfl rfl dX4_isFirstLabel_11 ?_
    refine q_getR (q_sh78 w) (by decide) (by decide) rfl lfX4_9 dX4_isFirstLabel_12 (r := 79) (q_wr78_4 w) ?_
    refine q_iload_n 0 rfl rfl dX4_isFirstLabel_15 ?_
    obtain ⟨hg3, h⟩ := q_guard h
    refine q_iald (q_sh79 w) (q_inb_in hg3) dX4_isFirstLabel_16 ?_
    refine q_iload_n 2 rfl rfl dX4_isFirstLabel_17 ?_
    refine q_icmp_ne 25 (by decide) dX4_isFirstLabel_18 (fun c => ?_) (fun c => ?_)
    · rw [if_neg c] at h
      refine q_iconst (v := (0 : Int32)) (by decide) dX4_isFirstLabel_25 ?_
      obtain rfl := Option.some.inj h
      exact q_iret rfl (by decide) dX4_isFirstLabel_26 hQ
    · rw [if_pos c] at h
      refine q_iconst (v := (1 : Int32)) (by decide) dX4_isFirstLabel_21 ?_
      refine q_goto 26 (by decide) dX4_isFirstLabel_22 ?_
      obtain rfl := Option.some.inj h
      exact q_iret rfl (by decide) dX4_isFirstLabel_26 hQ
set_option maxRecDepth 20000 in
theorem kX4_placeNamed {S : QS} {g : QG} {Q : Option Value → QS → Prop}  {x1 : Int32} {r : Int32} (w : q_Wire S) (h : fX4_placeNamed S x1 = some r) (hQ : Q (some (.int r)) S) : q_M g mX4_placeNamed 2 0 0 [.ref 78, .int x1] S Q := by
  unfold fX4_placeNamed at h
  show q_L g mX4_placeNamed 2 0 0 Q 0 0 0 [(0, .ref 78), (1, .int x1)] [] S
  refine q_aload_n 0 rfl rfl dX4_placeNamed_0 ?_
  refine q_iload_n 1 rfl rfl dX4_placeNamed_1 ?_
  obtain ⟨r1, e2, h⟩ := q_bind h
  refine q_callV (ci := 4) (d := 1) (Mc := mX4_labelNamed) (kc := 0) (nc := 0) [.int x1] okX4_labelNamed (q_sh78 w) (by decide) rfl lmX4_189 inX4_labelNamed seX4_labelNamed rfl (Nat.le_of_ble_eq_true rfl) (Nat.le_of_ble_eq_true rfl) (Nat.le_refl _) (Nat.le_refl _) dX4_placeNamed_2 (q_L.deep (by decide) (kX4_labelNamed (Q := fun r S' => r = some (.int r1) ∧ S' = S) w e2 ⟨rfl, rfl⟩)) (q_kI ?_)
  refine q_istore_n [(2, .int r1), (0, .ref 78), (1, .int x1)] rfl (by decide) rfl dX4_placeNamed_5 ?_
  refine q_iload_n 0 rfl rfl dX4_placeNamed_6 ?_
  refine q_iconst (v := (-1 : Int32)) (by decide) dX4_placeNamed_7 ?_
  refine q_icmp_ne 15 (by decide) dX4_placeNamed_8 (fun c => ?_) (fun c => ?_)
  · rw [if_neg c] at h
    refine q_aload_n 1 rfl rfl dX4_placeNamed_15 ?_
    refine q_getR (q_sh78 w) (by decide) (by decide) rfl lfX4_15 dX4_placeNamed_16 (r := 80) (q_wr78_5 w) ?_
    refine q_iload_n 0 rfl rfl dX4_placeNamed_19 ?_
    obtain ⟨hg3, h⟩ := q_guard h
    refine q_iald (q_sh80 w) (q_inb_in hg3) dX4_placeNamed_20 ?_
    obtain rfl := Option.some.inj h
    exact q_iret rfl rfl dX4_placeNamed_21 hQ
  · rw [if_pos c] at h
    refine q_iconst (v := (-1 : Int32)) (by decide) dX4_placeNamed_11 ?_
    refine q_goto 21 (by decide) dX4_placeNamed_12 ?_
    obtain rfl := Option.some.inj h
    exact q_iret rfl rfl dX4_placeNamed_21 hQ
set_option maxRecDepth 20000 in
theorem kX4_catchFault {S : QS} {g : QG} {Q : Option Value → QS → Prop} {p : Nat} {x1 : Int32} {r : Int32 × QS} (w : q_Wire S) (hp : q_pok p) (aN : q_aN S p) (h : fX4_catchFault S p x1 = some r) (hQ : Q (some (.int r.1)) r.2) : q_M g mX4_catchFault 7 0 0 [.ref 78, .int x1] S Q := by
  unfold fX4_catchFault at h
  show q_L g mX4_catchFault 7 0 0 Q 0 0 0 [(0, .ref 78), (1, .int x1)] [] S
  refine q_aload_n 0 rfl rfl dX4_catchFault_0 ?_
  refine q_getR (q_sh78 w) (by decide) (by decide) rfl lfX4_37 dX4_catchFault_1 (r := (p + 10)) (aN).2.2 ?_
  refine q_getIN (q_shP10 w hp) (by decide) (by decide) rfl lfX4_181 dX4_catchFault_4 ?_
  refine q_bipush (v := (64 : Int32)) (by decide) dX4_catchFault_7 ?_
  refine q_icmp_ne 14 (by decide) dX4_catchFault_9 (fun c => ?_) (fun c => ?_)
  · rw [if_neg c] at h
    refine q_aload_n 0 rfl rfl dX4_catchFault_14 ?_
    refine q_iload_n 1 rfl rfl dX4_catchFault_15 ?_
    refine q_iconst (v := (1 : Int32)) (by decide) dX4_catchFault_16 ?_
    refine q_iadd dX4_catchFault_17 ?_
    obtain ⟨r1, e2, h⟩ := q_bind h
    refine q_callV (ci := 4) (d := 6) (Mc := mX4_placeNamed) (kc := 0) (nc := 0) [.int (x1 + (1 : Int32))] okX4_placeNamed (q_sh78 w) (by decide) rfl lmX4_192 inX4_placeNamed seX4_placeNamed rfl (Nat.le_of_ble_eq_true rfl) (Nat.le_of_ble_eq_true rfl) (Nat.le_refl _) (Nat.le_refl _) dX4_catchFault_18 (q_L.deep (by decide) (kX4_placeNamed (Q := fun r S' => r = some (.int r1) ∧ S' = S) w e2 ⟨rfl, rfl⟩)) (q_kI ?_)
    refine q_istore_n [(2, .int r1), (0, .ref 78), (1, .int x1)] rfl (by decide) rfl dX4_catchFault_21 ?_
    refine q_iload_n 0 rfl rfl dX4_catchFault_22 ?_
    refine q_iconst (v := (-1 : Int32)) (by decide) dX4_catchFault_23 ?_
    refine q_icmp_ne 31 (by decide) dX4_catchFault_24 (fun c => ?_) (fun c => ?_)
    · rw [if_neg c] at h
      refine q_aload_n 1 rfl rfl dX4_catchFault_31 ?_
      refine q_iload_n 2 rfl rfl dX4_catchFault_32 ?_
      refine q_iconst (v := (2 : Int32)) (by decide) dX4_catchFault_33 ?_
      refine q_iadd dX4_catchFault_34 ?_
      obtain ⟨r3, e4, h⟩ := q_bind h
      refine q_callV (ci := 4) (d := 6) (Mc := mX4_placeNamed) (kc := 0) (nc := 0) [.int (x1 + (2 : Int32))] okX4_placeNamed (q_sh78 w) (by decide) rfl lmX4_192 inX4_placeNamed seX4_placeNamed rfl (Nat.le_of_ble_eq_true rfl) (Nat.le_of_ble_eq_true rfl) (Nat.le_refl _) (Nat.le_refl _) dX4_catchFault_35 (q_L.deep (by decide) (kX4_placeNamed (Q := fun r S' => r = some (.int r3) ∧ S' = S) w e4 ⟨rfl, rfl⟩)) (q_kI ?_)
      refine q_istore_n [(3, .int r3), (2, .int r1), (0, .ref 78), (1, .int x1)] rfl (by decide) rfl dX4_catchFault_38 ?_
      refine q_iload_n 0 rfl rfl dX4_catchFault_39 ?_
      refine q_iload_n 1 rfl rfl dX4_catchFault_40 ?_
      refine q_icmp_gt 48 (by decide) dX4_catchFault_41 (fun c => ?_) (fun c => ?_)
      · rw [if_pos c] at h
        refine q_aload_n 2 rfl rfl dX4_catchFault_48 ?_
        refine q_iload_n 3 rfl rfl dX4_catchFault_49 ?_
        refine q_iconst (v := (3 : Int32)) (by decide) dX4_catchFault_50 ?_
        refine q_iadd dX4_catchFault_51 ?_
        obtain ⟨r5, e6, h⟩ := q_bind h
        refine q_callV (ci := 4) (d := 6) (Mc := mX4_placeNamed) (kc := 0) (nc := 0) [.int (x1 + (3 : Int32))] okX4_placeNamed (q_sh78 w) (by decide) rfl lmX4_192 inX4_placeNamed seX4_placeNamed rfl (Nat.le_of_ble_eq_true rfl) (Nat.le_of_ble_eq_true rfl) (Nat.le_refl _) (Nat.le_refl _) dX4_catchFault_52 (q_L.deep (by decide) (kX4_placeNamed (Q := fun r S' => r = some (.int r5) ∧ S' = S) w e6 ⟨rfl, rfl⟩)) (q_kI ?_)
        refine q_istore [(4, .int r5), (3, .int r3), (2, .int r1), (0, .ref 78), (1, .int x1)] (by decide) rfl dX4_catchFault_55 ?_
        refine q_iload 0 rfl dX4_catchFault_57 ?_
        refine q_iconst (v := (-1 : Int32)) (by decide) dX4_catchFault_59 ?_
        refine q_icmp_eq 72 (by decide) dX4_catchFault_60 (fun c => ?_) (fun c => ?_)
        · rw [if_pos c] at h
          refine q_iload_n 4 rfl rfl dX4_catchFault_72 ?_
          refine q_iconst (v := (3 : Int32)) (by decide) dX4_catchFault_73 ?_
          refine q_iadd dX4_catchFault_74 ?_
          obtain rfl := Option.some.inj h
          exact q_iret rfl rfl dX4_catchFault_75 hQ
        · rw [if_neg c] at h
          refine q_iload 0 rfl dX4_catchFault_63 ?_
          refine q_aload_n 3 rfl rfl dX4_catchFault_65 ?_
          refine q_getI (q_sh78 w) (by decide) (by decide) rfl lfX4_187 dX4_catchFault_66 ?_
          refine q_icmp_lt 76 (by decide) dX4_catchFault_69 (fun c => ?_) (fun c => ?_)
          · rw [if_pos c] at h
            refine q_aload_n 3 rfl rfl dX4_catchFault_76 ?_
            refine q_iload_n 4 rfl rfl dX4_catchFault_77 ?_
            refine q_iconst (v := (4 : Int32)) (by decide) dX4_catchFault_78 ?_
            refine q_iadd dX4_catchFault_79 ?_
            obtain ⟨r7, e8, h⟩ := q_bind h
            refine q_callV (ci := 4) (d := 6) (Mc := mX4_classAt) (kc := 0) (nc := 0) [.int (x1 + (4 : Int32))] okX4_classAt (q_sh78 w) (by decide) rfl lmX4_51 inX4_classAt seX4_classAt rfl (Nat.le_of_ble_eq_true rfl) (Nat.le_of_ble_eq_true rfl) (Nat.le_refl _) (Nat.le_refl _) dX4_catchFault_80 (q_L.deep (by decide) (kX4_classAt (Q := fun r S' => r = some (.int r7) ∧ S' = S) w hp (aN) e8 ⟨rfl, rfl⟩)) (q_kI ?_)
            refine q_istore [(5, .int r7), (4, .int r5), (3, .int r3), (2, .int r1), (0, .ref 78), (1, .int x1)] (by decide) rfl dX4_catchFault_83 ?_
            refine q_aload_n 4 rfl rfl dX4_catchFault_85 ?_
            refine q_getR (q_sh78 w) (by decide) (by decide) rfl lfX4_32 dX4_catchFault_86 (r := (p + 1)) (aN).2.1 ?_
            refine q_iconst (v := (1 : Int32)) (by decide) dX4_catchFault_89 ?_
            refine q_iload 0 rfl dX4_catchFault_90 ?_
            obtain ⟨r9, e10, h⟩ := q_bind h
            refine q_callV (ci := 0) (d := 6) (Mc := mX0_isAbove) (kc := 0) (nc := 0) [.int (1 : Int32), .int r7] okX0_isAbove (q_shP1 w hp) (by decide) rfl lmX4_195 inX0_isAbove seX0_isAbove rfl (Nat.le_of_ble_eq_true rfl) (Nat.le_of_ble_eq_true rfl) (Nat.le_refl _) (Nat.le_refl _) dX4_catchFault_92 (q_L.deep (by decide) (kX0_isAbove (Q := fun r S' => r = some (.int (q_b r9)) ∧ S' = S) w hp e10 ⟨rfl, rfl⟩)) (q_kI ?_)
            refine q_if_ne 102 (by decide) dX4_catchFault_95 (fun c => ?_) (fun c => ?_)
            · have c := q_b_n.mp c; rw [q_if1 c] at h
              refine q_aload_n 4 rfl rfl dX4_catchFault_102 ?_
              refine q_getR (q_sh78 w) (by decide) (by decide) rfl lfX4_37 dX4_catchFault_103 (r := (p + 10)) (aN).2.2 ?_
              refine q_iload_n 3 rfl rfl dX4_catchFault_106 ?_
              refine q_iload_n 2 rfl rfl dX4_catchFault_107 ?_
              refine q_iload 1 rfl dX4_catchFault_108 ?_
              refine q_iload 0 rfl dX4_catchFault_110 ?_
              obtain ⟨r11, e12, h⟩ := q_bind h
              refine q_callV (ci := 1) (d := 6) (Mc := mX1_addCatch) (kc := 0) (nc := 0) [.int r1, .int r3, .int r5, .int r7] okX1_addCatch (q_shP10 w hp) (by decide) rfl lmX4_198 inX1_addCatch seX1_addCatch rfl (Nat.le_of_ble_eq_true rfl) (Nat.le_of_ble_eq_true rfl) (Nat.le_refl _) (Nat.le_refl _) dX4_catchFault_112 (q_L.deep (by decide) (kX1_addCatch (Q := fun r S' => r = none ∧ S' = r11) w hp e12 ⟨rfl, rfl⟩)) (q_kV ?_)
              have fx13 : q_Fx S r11 := q_Fx.tr (q_Fx.rf S) (fxX1_addCatch e12)
              refine q_iconst (v := (-1 : Int32)) (by decide) dX4_catchFault_115 ?_
              obtain rfl := Option.some.inj h
              exact q_iret rfl rfl dX4_catchFault_116 hQ
            · have c := q_b_0.mp c; rw [q_if0 c] at h
              refine q_iload_n 5 rfl rfl dX4_catchFault_98 ?_
              refine q_iconst (v := (4 : Int32)) (by decide) dX4_catchFault_99 ?_
              refine q_iadd dX4_catchFault_100 ?_
              obtain rfl := Option.some.inj h
              exact q_iret rfl rfl dX4_catchFault_101 hQ
          · rw [if_neg c] at h
            refine q_iload_n 4 rfl rfl dX4_catchFault_72 ?_
            refine q_iconst (v := (3 : Int32)) (by decide) dX4_catchFault_73 ?_
            refine q_iadd dX4_catchFault_74 ?_
            obtain rfl := Option.some.inj h
            exact q_iret rfl rfl dX4_catchFault_75 hQ
      · rw [if_neg c] at h
        refine q_iload_n 3 rfl rfl dX4_catchFault_44 ?_
        refine q_iconst (v := (2 : Int32)) (by decide) dX4_catchFault_45 ?_
        refine q_iadd dX4_catchFault_46 ?_
        obtain rfl := Option.some.inj h
        exact q_iret rfl rfl dX4_catchFault_47 hQ
    · rw [if_pos c] at h
      refine q_iload_n 2 rfl rfl dX4_catchFault_27 ?_
      refine q_iconst (v := (1 : Int32)) (by decide) dX4_catchFault_28 ?_
      refine q_iadd dX4_catchFault_29 ?_
      obtain rfl := Option.some.inj h
      exact q_iret rfl rfl dX4_catchFault_30 hQ
  · rw [if_pos c] at h
    refine q_iload_n 1 rfl rfl dX4_catchFault_12 ?_
    obtain rfl := Option.some.inj h
    exact q_iret rfl rfl dX4_catchFault_13 hQ
set_option maxRecDepth 20000 in
theorem kX4_endFault {S : QS} {g : QG} {Q : Option Value → QS → Prop} {p : Nat} {x1 : Int32} {r : Int32 × QS} (w : q_Wire S) (hp : q_pok p) (aN : q_aN S p) (h : fX4_endFault S p x1 = some r) (hQ : Q (some (.int r.1)) r.2) : q_M g mX4_endFault 1 0 0 [.ref 78, .int x1] S Q := by
  unfold fX4_endFault at h
  show q_L g mX4_endFault 1 0 0 Q 0 0 0 [(0, .ref 78), (1, .int x1)] [] S
  refine q_aload_n 0 rfl rfl dX4_endFault_0 ?_
  refine q_getR (q_sh78 w) (by decide) (by decide) rfl lfX4_22 dX4_endFault_1 (r := p) (aN).1 ?_
  refine q_getRN (q_shP0 w hp) (by decide) (by decide) rfl lfX4_202 dX4_endFault_4 (r := (p + 30)) (q_wrP0_11 w hp) ?_
  refine q_aload_n 0 rfl rfl dX4_endFault_7 ?_
  refine q_getI (q_sh78 w) (by decide) (by decide) rfl lfX4_150 dX4_endFault_8 ?_
  refine q_aload_n 0 rfl rfl dX4_endFault_11 ?_
  refine q_getR (q_sh78 w) (by decide) (by decide) rfl lfX4_37 dX4_endFault_12 (r := (p + 10)) (aN).2.2 ?_
  refine q_getIN (q_shP10 w hp) (by decide) (by decide) rfl lfX4_175 dX4_endFault_15 ?_
  obtain ⟨hg1, h⟩ := q_guard h
  refine q_iast (q_shP30 w hp) (q_inb_in hg1) dX4_endFault_18 ?_
  obtain ⟨S2, e3, h⟩ := q_bindS h
  refine q_st e3 ?_
  have fx4 : q_Fx S S2 := e3 ▸ q_Fx.sI (q_Fx.rf S)
  refine q_aload_n 0 rfl rfl dX4_endFault_19 ?_
  refine q_getR (q_sh78 (w.fx fx4)) (by decide) (by decide) rfl lfX4_22 dX4_endFault_20 (r := p) (aN.fx fx4).1 ?_
  refine q_getRN (q_shP0 (w.fx fx4) hp) (by decide) (by decide) rfl lfX4_204 dX4_endFault_23 (r := (p + 32)) (q_wrP0_13 (w.fx fx4) hp) ?_
  refine q_aload_n 0 rfl rfl dX4_endFault_26 ?_
  refine q_getI (q_sh78 (w.fx fx4)) (by decide) (by decide) rfl lfX4_150 dX4_endFault_27 ?_
  refine q_aload_n 0 rfl rfl dX4_endFault_30 ?_
  refine q_getR (q_sh78 (w.fx fx4)) (by decide) (by decide) rfl lfX4_37 dX4_endFault_31 (r := (p + 10)) (aN.fx fx4).2.2 ?_
  refine q_getIN (q_shP10 (w.fx fx4) hp) (by decide) (by decide) rfl lfX4_181 dX4_endFault_34 ?_
  obtain ⟨hg5, h⟩ := q_guard h
  refine q_iast (q_shP32 (w.fx fx4) hp) (q_inb_in hg5) dX4_endFault_37 ?_
  obtain ⟨S6, e7, h⟩ := q_bindS h
  refine q_st e7 ?_
  have fx8 : q_Fx S S6 := e7 ▸ q_Fx.sI (fx4)
  refine q_aload_n 0 rfl rfl dX4_endFault_38 ?_
  refine q_getR (q_sh78 (w.fx fx8)) (by decide) (by decide) rfl lfX4_37 dX4_endFault_39 (r := (p + 10)) (aN.fx fx8).2.2 ?_
  refine q_getIN (q_shP10 (w.fx fx8) hp) (by decide) (by decide) rfl lfX4_175 dX4_endFault_42 ?_
  refine q_aload_n 0 rfl rfl dX4_endFault_45 ?_
  refine q_getR (q_sh78 (w.fx fx8)) (by decide) (by decide) rfl lfX4_22 dX4_endFault_46 (r := p) (aN.fx fx8).1 ?_
  refine q_getRN (q_shP0 (w.fx fx8) hp) (by decide) (by decide) rfl lfX4_172 dX4_endFault_49 (r := (p + 29)) (q_wrP0_10 (w.fx fx8) hp) ?_
  refine q_aload_n 0 rfl rfl dX4_endFault_52 ?_
  refine q_getI (q_sh78 (w.fx fx8)) (by decide) (by decide) rfl lfX4_150 dX4_endFault_53 ?_
  obtain ⟨hg9, h⟩ := q_guard h
  refine q_iald (q_shP29 (w.fx fx8) hp) (q_inb_in hg9) dX4_endFault_56 ?_
  obtain ⟨v10, hv, h⟩ := q_bind h
  have K1 : q_L g mX4_endFault 1 0 0 Q 0 0 65 [(0, .ref 78), (1, .int x1)] [.int (q_b v10)] S6 := by
    refine q_istore_n [(2, .int (q_b v10)), (0, .ref 78), (1, .int x1)] rfl (by decide) rfl dX4_endFault_65 ?_
    refine q_iload_n 0 rfl rfl dX4_endFault_66 ?_
    refine q_if_ne 93 (by decide) dX4_endFault_67 (fun c => ?_) (fun c => ?_)
    · have c := q_b_n.mp c; rw [q_if1 c] at h
      refine q_iload_n 2 rfl rfl dX4_endFault_93 ?_
      refine q_goto 98 (by decide) dX4_endFault_94 ?_
      obtain rfl := Option.some.inj h
      exact q_iret rfl rfl dX4_endFault_98 hQ
    · have c := q_b_0.mp c; rw [q_if0 c] at h
      refine q_aload_n 1 rfl rfl dX4_endFault_70 ?_
      refine q_getR (q_sh78 (w.fx fx8)) (by decide) (by decide) rfl lfX4_37 dX4_endFault_71 (r := (p + 10)) (aN.fx fx8).2.2 ?_
      refine q_getRN (q_shP10 (w.fx fx8) hp) (by decide) (by decide) rfl lfX4_207 dX4_endFault_74 (r := (p + 11)) (q_wrP10_1 (w.fx fx8) hp) ?_
      refine q_aload_n 1 rfl rfl dX4_endFault_77 ?_
      refine q_getR (q_sh78 (w.fx fx8)) (by decide) (by decide) rfl lfX4_37 dX4_endFault_78 (r := (p + 10)) (aN.fx fx8).2.2 ?_
      refine q_getIN (q_shP10 (w.fx fx8) hp) (by decide) (by decide) rfl lfX4_175 dX4_endFault_81 ?_
      refine q_iconst (v := (1 : Int32)) (by decide) dX4_endFault_84 ?_
      refine q_isub dX4_endFault_85 ?_
      obtain ⟨hg11, h⟩ := q_guard h
      refine q_iald (q_shP11 (w.fx fx8) hp) (q_inb_in hg11) dX4_endFault_86 ?_
      obtain ⟨r12, e13, h⟩ := q_bind h
      refine q_callS (d := 0) (Mc := mX1_goesOn) (kc := 0) (nc := 0) [.int (S6.2.1 (p + 11) ((S6.2.1 (p + 10) 0) - (1 : Int32)).toNatClampNeg)] okX1_goesOn lmX4_210 inX1_goesOn rfl (Nat.le_of_ble_eq_true rfl) (Nat.le_of_ble_eq_true rfl) (Nat.le_refl _) (Nat.le_refl _) dX4_endFault_87 (q_L.deep (by decide) (kX1_goesOn (Q := fun r S' => r = some (.int (q_b r12)) ∧ S' = S6) (w.fx fx8) e13 ⟨rfl, rfl⟩)) (q_kI ?_)
      refine q_if_eq 97 (by decide) dX4_endFault_90 (fun c => ?_) (fun c => ?_)
      · have c := q_b_0.mp c; rw [q_if0 c] at h
        refine q_iconst (v := (-1 : Int32)) (by decide) dX4_endFault_97 ?_
        obtain rfl := Option.some.inj h
        exact q_iret rfl rfl dX4_endFault_98 hQ
      · have c := q_b_n.mp c; rw [q_if1 c] at h
        refine q_iload_n 2 rfl rfl dX4_endFault_93 ?_
        refine q_goto 98 (by decide) dX4_endFault_94 ?_
        obtain rfl := Option.some.inj h
        exact q_iret rfl rfl dX4_endFault_98 hQ
  replace h := hv
  refine q_icmp_ne 64 (by decide) dX4_endFault_57 (fun c => ?_) (fun c => ?_)
  · rw [if_neg c] at h
    refine q_iconst (v := (0 : Int32)) (by decide) dX4_endFault_64 ?_
    obtain rfl := Option.some.inj h
    refine q_sub [0, 1] rfl ?_
    exact K1
  · rw [if_pos c] at h
    refine q_iconst (v := (1 : Int32)) (by decide) dX4_endFault_60 ?_
    refine q_goto 65 (by decide) dX4_endFault_61 ?_
    obtain rfl := Option.some.inj h
    refine q_sub [0, 1] rfl ?_
    exact K1
set_option maxRecDepth 20000 in
theorem kX4_hasRoomFor {S : QS} {g : QG} {Q : Option Value → QS → Prop} {p : Nat} {x1 : Int32} {r : Bool} (w : q_Wire S) (hp : q_pok p) (aN : q_aN S p) (h : fX4_hasRoomFor S p x1 = some r) (hQ : Q (some (.int (q_b r))) S) : q_M g mX4_hasRoomFor 1 0 0 [.ref 78, .int x1] S Q := by
  unfold fX4_hasRoomFor at h
  show q_L g mX4_hasRoomFor 1 0 0 Q 0 0 0 [(0, .ref 78), (1, .int x1)] [] S
  refine q_aload_n 0 rfl rfl dX4_hasRoomFor_0 ?_
  refine q_getR (q_sh78 w) (by decide) (by decide) rfl lfX4_37 dX4_hasRoomFor_1 (r := (p + 10)) (aN).2.2 ?_
  refine q_getIN (q_shP10 w hp) (by decide) (by decide) rfl lfX4_175 dX4_hasRoomFor_4 ?_
  refine q_sipush (v := (1024 : Int32)) (by decide) dX4_hasRoomFor_7 ?_
  refine q_icmp_ge 36 (by decide) dX4_hasRoomFor_10 (fun c => ?_) (fun c => ?_)
  · rw [if_pos c] at h
    refine q_iconst (v := (0 : Int32)) (by decide) dX4_hasRoomFor_36 ?_
    obtain rfl := Option.some.inj h
    exact q_iret rfl (by decide) dX4_hasRoomFor_37 hQ
  · rw [if_neg c] at h
    refine q_aload_n 0 rfl rfl dX4_hasRoomFor_13 ?_
    refine q_getR (q_sh78 w) (by decide) (by decide) rfl lfX4_37 dX4_hasRoomFor_14 (r := (p + 10)) (aN).2.2 ?_
    refine q_getIN (q_shP10 w hp) (by decide) (by decide) rfl lfX4_213 dX4_hasRoomFor_17 ?_
    refine q_bipush (v := (48 : Int32)) (by decide) dX4_hasRoomFor_20 ?_
    refine q_icmp_lt 32 (by decide) dX4_hasRoomFor_22 (fun c => ?_) (fun c => ?_)
    · rw [if_pos c] at h
      refine q_iconst (v := (1 : Int32)) (by decide) dX4_hasRoomFor_32 ?_
      refine q_goto 37 (by decide) dX4_hasRoomFor_33 ?_
      obtain rfl := Option.some.inj h
      exact q_iret rfl (by decide) dX4_hasRoomFor_37 hQ
    · rw [if_neg c] at h
      refine q_iload_n 1 rfl rfl dX4_hasRoomFor_25 ?_
      obtain ⟨r1, e2, h⟩ := q_bind h
      refine q_callS (d := 0) (Mc := mX1_isMaking) (kc := 0) (nc := 0) [.int x1] okX1_isMaking lmX4_216 inX1_isMaking rfl (Nat.le_of_ble_eq_true rfl) (Nat.le_of_ble_eq_true rfl) (Nat.le_refl _) (Nat.le_refl _) dX4_hasRoomFor_26 (q_L.deep (by decide) (kX1_isMaking (Q := fun r S' => r = some (.int (q_b r1)) ∧ S' = S) w e2 ⟨rfl, rfl⟩)) (q_kI ?_)
      refine q_if_ne 36 (by decide) dX4_hasRoomFor_29 (fun c => ?_) (fun c => ?_)
      · have c := q_b_n.mp c; rw [q_if1 c] at h
        refine q_iconst (v := (0 : Int32)) (by decide) dX4_hasRoomFor_36 ?_
        obtain rfl := Option.some.inj h
        exact q_iret rfl (by decide) dX4_hasRoomFor_37 hQ
      · have c := q_b_0.mp c; rw [q_if0 c] at h
        refine q_iconst (v := (1 : Int32)) (by decide) dX4_hasRoomFor_32 ?_
        refine q_goto 37 (by decide) dX4_hasRoomFor_33 ?_
        obtain rfl := Option.some.inj h
        exact q_iret rfl (by decide) dX4_hasRoomFor_37 hQ
set_option maxRecDepth 20000 in
theorem kX4_setsReference_70 {S : QS} {g : QG} {Q : Option Value → QS → Prop} {p : Nat} {y1 : Int32} {y4 : Int32} {y5 : Int32} {r : Bool × QS} (w : q_Wire S) (hp : q_pok p) (aN : q_aN S p) (h : fX4_setsReference_70 S p y1 y4 y5 = some r) (hQ : Q (some (.int (q_b r.1))) r.2) : q_L g mX4_setsReference 6 0 0 Q 0 0 70 [(0, .ref 78), (1, .int y1), (4, .int y4), (5, .int y5)] [] S := by
  unfold fX4_setsReference_70 at h
  refine q_aload_n 0 rfl rfl dX4_setsReference_70 ?_
  refine q_getR (q_sh78 w) (by decide) (by decide) rfl lfX4_37 dX4_setsReference_71 (r := (p + 10)) (aN).2.2 ?_
  refine q_getRN (q_shP10 w hp) (by decide) (by decide) rfl lfX4_222 dX4_setsReference_74 (r := (p + 12)) (q_wrP10_2 w hp) ?_
  refine q_iload_n 1 rfl rfl dX4_setsReference_77 ?_
  refine q_aload_n 0 rfl rfl dX4_setsReference_78 ?_
  refine q_aload_n 0 rfl rfl dX4_setsReference_79 ?_
  refine q_getR (q_sh78 w) (by decide) (by decide) rfl lfX4_37 dX4_setsReference_80 (r := (p + 10)) (aN).2.2 ?_
  refine q_getRN (q_shP10 w hp) (by decide) (by decide) rfl lfX4_225 dX4_setsReference_83 (r := (p + 13)) (q_wrP10_3 w hp) ?_
  refine q_iload_n 1 rfl rfl dX4_setsReference_86 ?_
  obtain ⟨hg1, h⟩ := q_guard h
  refine q_iald (q_shP13 w hp) (q_inb_in hg1) dX4_setsReference_87 ?_
  refine q_iload 2 rfl dX4_setsReference_88 ?_
  refine q_iconst (v := (1 : Int32)) (by decide) dX4_setsReference_90 ?_
  refine q_iadd dX4_setsReference_91 ?_
  refine q_iload 3 rfl dX4_setsReference_92 ?_
  obtain ⟨r2, e3, h⟩ := q_bind h
  refine q_callV (ci := 4) (d := 5) (Mc := mX4_fieldNamed) (kc := 0) (nc := 0) [.int (S.2.1 (p + 13) y1.toNatClampNeg), .int (y4 + (1 : Int32)), .int y5] okX4_fieldNamed (q_sh78 w) (by decide) rfl lmX4_81 inX4_fieldNamed seX4_fieldNamed rfl (Nat.le_of_ble_eq_true rfl) (Nat.le_of_ble_eq_true rfl) (Nat.le_refl _) (Nat.le_refl _) dX4_setsReference_94 (q_L.deep (by decide) (kX4_fieldNamed (Q := fun r S' => r = some (.int r2) ∧ S' = S) w hp (aN) e3 ⟨rfl, rfl⟩)) (q_kI ?_)
  obtain ⟨hg4, h⟩ := q_guard h
  refine q_iast (q_shP12 w hp) (q_inb_in hg4) dX4_setsReference_97 ?_
  obtain ⟨S5, e6, h⟩ := q_bindS h
  refine q_st e6 ?_
  have fx7 : q_Fx S S5 := e6 ▸ q_Fx.sI (q_Fx.rf S)
  refine q_aload_n 0 rfl rfl dX4_setsReference_98 ?_
  refine q_getR (q_sh78 (w.fx fx7)) (by decide) (by decide) rfl lfX4_37 dX4_setsReference_99 (r := (p + 10)) (aN.fx fx7).2.2 ?_
  refine q_getRN (q_shP10 (w.fx fx7) hp) (by decide) (by decide) rfl lfX4_222 dX4_setsReference_102 (r := (p + 12)) (q_wrP10_2 (w.fx fx7) hp) ?_
  refine q_iload_n 1 rfl rfl dX4_setsReference_105 ?_
  obtain ⟨hg8, h⟩ := q_guard h
  refine q_iald (q_shP12 (w.fx fx7) hp) (q_inb_in hg8) dX4_setsReference_106 ?_
  refine q_iconst (v := (-1 : Int32)) (by decide) dX4_setsReference_107 ?_
  refine q_icmp_eq 115 (by decide) dX4_setsReference_108 (fun c => ?_) (fun c => ?_)
  · rw [if_pos c] at h
    refine q_iconst (v := (0 : Int32)) (by decide) dX4_setsReference_115 ?_
    obtain rfl := Option.some.inj h
    exact q_iret rfl (by decide) dX4_setsReference_116 hQ
  · rw [if_neg c] at h
    refine q_iconst (v := (1 : Int32)) (by decide) dX4_setsReference_111 ?_
    refine q_goto 116 (by decide) dX4_setsReference_112 ?_
    obtain rfl := Option.some.inj h
    exact q_iret rfl (by decide) dX4_setsReference_116 hQ
set_option maxRecDepth 20000 in
theorem kX4_setsReference {S : QS} {g : QG} {Q : Option Value → QS → Prop} {p : Nat} {x1 : Int32} {x2 : Int32} {x3 : Int32} {r : Bool × QS} (w : q_Wire S) (hp : q_pok p) (aN : q_aN S p) (h : fX4_setsReference S p x1 x2 x3 = some r) (hQ : Q (some (.int (q_b r.1))) r.2) : q_M g mX4_setsReference 6 0 0 [.ref 78, .int x1, .int x2, .int x3] S Q := by
  unfold fX4_setsReference at h
  show q_L g mX4_setsReference 6 0 0 Q 0 0 0 [(0, .ref 78), (1, .int x1), (2, .int x2), (3, .int x3)] [] S
  refine q_aload_n 0 rfl rfl dX4_setsReference_0 ?_
  refine q_getR (q_sh78 w) (by decide) (by decide) rfl lfX4_18 dX4_setsReference_1 (r := 2) (q_wr78_0 w) ?_
  refine q_iload_n 3 rfl rfl dX4_setsReference_4 ?_
  obtain ⟨r9, e10, h⟩ := q_bind h
  refine q_callV (ci := 8) (d := 5) (Mc := mX8_dotOf) (kc := 0) (nc := 0) [.int x3] okX8_dotOf (q_sh2 w) (by decide) rfl lmX4_237 inX8_dotOf seX8_dotOf rfl (Nat.le_of_ble_eq_true rfl) (Nat.le_of_ble_eq_true rfl) (Nat.le_refl _) (Nat.le_refl _) dX4_setsReference_5 (q_L.deep (by decide) (kX8_dotOf (Q := fun r S' => r = some (.int r9) ∧ S' = S) w e10 ⟨rfl, rfl⟩)) (q_kI ?_)
  refine q_istore [(4, .int r9), (0, .ref 78), (1, .int x1), (2, .int x2), (3, .int x3)] (by decide) rfl dX4_setsReference_8 ?_
  refine q_aload_n 1 rfl rfl dX4_setsReference_10 ?_
  refine q_getR (q_sh78 w) (by decide) (by decide) rfl lfX4_18 dX4_setsReference_11 (r := 2) (q_wr78_0 w) ?_
  refine q_iload_n 4 rfl rfl dX4_setsReference_14 ?_
  obtain ⟨r11, e12, h⟩ := q_bind h
  refine q_callV (ci := 8) (d := 5) (Mc := mX8_stop) (kc := 0) (nc := 0) [.int x3] okX8_stop (q_sh2 w) (by decide) rfl lmX4_78 inX8_stop seX8_stop rfl (Nat.le_of_ble_eq_true rfl) (Nat.le_of_ble_eq_true rfl) (Nat.le_refl _) (Nat.le_refl _) dX4_setsReference_15 (q_L.deep (by decide) (kX8_stop (Q := fun r S' => r = some (.int r11) ∧ S' = S) w e12 ⟨rfl, rfl⟩)) (q_kI ?_)
  refine q_istore [(5, .int r11), (4, .int r9), (0, .ref 78), (1, .int x1), (2, .int x2), (3, .int x3)] (by decide) rfl dX4_setsReference_18 ?_
  refine q_aload_n 2 rfl rfl dX4_setsReference_20 ?_
  refine q_getR (q_sh78 w) (by decide) (by decide) rfl lfX4_37 dX4_setsReference_21 (r := (p + 10)) (aN).2.2 ?_
  refine q_getRN (q_shP10 w hp) (by decide) (by decide) rfl lfX4_225 dX4_setsReference_24 (r := (p + 13)) (q_wrP10_3 w hp) ?_
  refine q_iload_n 3 rfl rfl dX4_setsReference_27 ?_
  refine q_aload_n 2 rfl rfl dX4_setsReference_28 ?_
  refine q_aload_n 2 rfl rfl dX4_setsReference_29 ?_
  refine q_getR (q_sh78 w) (by decide) (by decide) rfl lfX4_18 dX4_setsReference_30 (r := 2) (q_wr78_0 w) ?_
  refine q_iload_n 5 rfl rfl dX4_setsReference_33 ?_
  obtain ⟨r13, e14, h⟩ := q_bind h
  refine q_callV (ci := 8) (d := 5) (Mc := mX8_start) (kc := 0) (nc := 0) [.int x3] okX8_start (q_sh2 w) (by decide) rfl lmX4_75 inX8_start seX8_start rfl (Nat.le_of_ble_eq_true rfl) (Nat.le_of_ble_eq_true rfl) (Nat.le_refl _) (Nat.le_refl _) dX4_setsReference_34 (q_L.deep (by decide) (kX8_start (Q := fun r S' => r = some (.int r13) ∧ S' = S) w e14 ⟨rfl, rfl⟩)) (q_kI ?_)
  refine q_iload 1 rfl dX4_setsReference_37 ?_
  obtain ⟨r15, e16, h⟩ := q_bind h
  refine q_callV (ci := 4) (d := 5) (Mc := mX4_classIn) (kc := 0) (nc := 0) [.int r13, .int r9] okX4_classIn (q_sh78 w) (by decide) rfl lmX4_240 inX4_classIn seX4_classIn rfl (Nat.le_of_ble_eq_true rfl) (Nat.le_of_ble_eq_true rfl) (Nat.le_refl _) (Nat.le_refl _) dX4_setsReference_39 (q_L.deep (by decide) (kX4_classIn (Q := fun r S' => r = some (.int r15) ∧ S' = S) w hp (aN) e16 ⟨rfl, rfl⟩)) (q_kI ?_)
  obtain ⟨hg17, h⟩ := q_guard h
  refine q_iast (q_shP13 w hp) (q_inb_in hg17) dX4_setsReference_42 ?_
  obtain ⟨S18, e19, h⟩ := q_bindS h
  refine q_st e19 ?_
  have fx20 : q_Fx S S18 := e19 ▸ q_Fx.sI (q_Fx.rf S)
  refine q_aload_n 2 rfl rfl dX4_setsReference_43 ?_
  refine q_getR (q_sh78 (w.fx fx20)) (by decide) (by decide) rfl lfX4_37 dX4_setsReference_44 (r := (p + 10)) (aN.fx fx20).2.2 ?_
  refine q_getRN (q_shP10 (w.fx fx20) hp) (by decide) (by decide) rfl lfX4_225 dX4_setsReference_47 (r := (p + 13)) (q_wrP10_3 (w.fx fx20) hp) ?_
  refine q_iload_n 3 rfl rfl dX4_setsReference_50 ?_
  obtain ⟨hg21, h⟩ := q_guard h
  refine q_iald (q_shP13 (w.fx fx20) hp) (q_inb_in hg21) dX4_setsReference_51 ?_
  refine q_iconst (v := (-1 : Int32)) (by decide) dX4_setsReference_52 ?_
  refine q_icmp_ne 58 (by decide) dX4_setsReference_53 (fun c => ?_) (fun c => ?_)
  · rw [if_neg c] at h
    refine q_iload_n 4 rfl rfl dX4_setsReference_58 ?_
    refine q_bipush (v := (35 : Int32)) (by decide) dX4_setsReference_59 ?_
    refine q_icmp_eq 70 (by decide) dX4_setsReference_61 (fun c => ?_) (fun c => ?_)
    · rw [if_pos c] at h
      refine q_sub [2, 3, 1, 0] rfl ?_
      exact kX4_setsReference_70 (w.fx fx20) hp (aN.fx fx20) h hQ
    · rw [if_neg c] at h
      refine q_iload_n 4 rfl rfl dX4_setsReference_64 ?_
      refine q_bipush (v := (36 : Int32)) (by decide) dX4_setsReference_65 ?_
      refine q_icmp_ne 117 (by decide) dX4_setsReference_67 (fun c => ?_) (fun c => ?_)
      · rw [if_neg c] at h
        refine q_aload_n 2 rfl rfl dX4_setsReference_117 ?_
        refine q_aload_n 2 rfl rfl dX4_setsReference_118 ?_
        refine q_getR (q_sh78 (w.fx fx20)) (by decide) (by decide) rfl lfX4_37 dX4_setsReference_119 (r := (p + 10)) (aN.fx fx20).2.2 ?_
        refine q_getRN (q_shP10 (w.fx fx20) hp) (by decide) (by decide) rfl lfX4_225 dX4_setsReference_122 (r := (p + 13)) (q_wrP10_3 (w.fx fx20) hp) ?_
        refine q_iload_n 3 rfl rfl dX4_setsReference_125 ?_
        obtain ⟨hg22, h⟩ := q_guard h
        refine q_iald (q_shP13 (w.fx fx20) hp) (q_inb_in hg22) dX4_setsReference_126 ?_
        refine q_iload 1 rfl dX4_setsReference_127 ?_
        refine q_iconst (v := (1 : Int32)) (by decide) dX4_setsReference_129 ?_
        refine q_iadd dX4_setsReference_130 ?_
        refine q_iload 0 rfl dX4_setsReference_131 ?_
        obtain ⟨r23, e24, h⟩ := q_bind h
        refine q_callV (ci := 4) (d := 5) (Mc := mX4_bodyNamed) (kc := 0) (nc := 0) [.int (S18.2.1 (p + 13) x1.toNatClampNeg), .int (r9 + (1 : Int32)), .int r11] okX4_bodyNamed (q_sh78 (w.fx fx20)) (by decide) rfl lmX4_95 inX4_bodyNamed seX4_bodyNamed rfl (Nat.le_of_ble_eq_true rfl) (Nat.le_of_ble_eq_true rfl) (Nat.le_refl _) (Nat.le_refl _) dX4_setsReference_133 (q_L.deep (by decide) (kX4_bodyNamed (Q := fun r S' => r = some (.int r23) ∧ S' = S18) (w.fx fx20) hp (aN.fx fx20) e24 ⟨rfl, rfl⟩)) (q_kI ?_)
        refine q_istore [(6, .int r23), (5, .int r11), (4, .int r9), (0, .ref 78), (1, .int x1), (2, .int x2), (3, .int x3)] (by decide) rfl dX4_setsReference_136 ?_
        refine q_iload 0 rfl dX4_setsReference_138 ?_
        refine q_iconst (v := (-1 : Int32)) (by decide) dX4_setsReference_140 ?_
        refine q_icmp_eq 168 (by decide) dX4_setsReference_141 (fun c => ?_) (fun c => ?_)
        · rw [if_pos c] at h
          refine q_iconst (v := (0 : Int32)) (by decide) dX4_setsReference_168 ?_
          obtain rfl := Option.some.inj h
          exact q_iret rfl (by decide) dX4_setsReference_169 hQ
        · rw [if_neg c] at h
          refine q_aload_n 3 rfl rfl dX4_setsReference_144 ?_
          refine q_getR (q_sh78 (w.fx fx20)) (by decide) (by decide) rfl lfX4_22 dX4_setsReference_145 (r := p) (aN.fx fx20).1 ?_
          refine q_getRN (q_shP0 (w.fx fx20) hp) (by decide) (by decide) rfl lfX4_134 dX4_setsReference_148 (r := (p + 24)) (q_wrP0_5 (w.fx fx20) hp) ?_
          refine q_iload 0 rfl dX4_setsReference_151 ?_
          obtain ⟨hg25, h⟩ := q_guard h
          refine q_zald (q_shP24 (w.fx fx20) hp) (q_inb_in hg25) dX4_setsReference_153 ?_
          refine q_iload_n 5 rfl rfl dX4_setsReference_154 ?_
          refine q_bipush (v := (40 : Int32)) (by decide) dX4_setsReference_155 ?_
          obtain ⟨v26, hv, h⟩ := q_bind h
          have K1 : q_L g mX4_setsReference 6 0 0 Q 0 0 165 [(0, .ref 78), (1, .int x1), (6, .int r23)] [.int (q_b v26), .int (S18.2.1 (p + 24) r23.toNatClampNeg)] S18 := by
            refine q_icmp_eq 170 (by decide) dX4_setsReference_165 (fun c => ?_) (fun c => ?_)
            · rw [if_pos c] at h
              refine q_aload_n 0 rfl rfl dX4_setsReference_170 ?_
              refine q_getR (q_sh78 (w.fx fx20)) (by decide) (by decide) rfl lfX4_37 dX4_setsReference_171 (r := (p + 10)) (aN.fx fx20).2.2 ?_
              refine q_getRN (q_shP10 (w.fx fx20) hp) (by decide) (by decide) rfl lfX4_222 dX4_setsReference_174 (r := (p + 12)) (q_wrP10_2 (w.fx fx20) hp) ?_
              refine q_iload_n 1 rfl rfl dX4_setsReference_177 ?_
              refine q_aload_n 0 rfl rfl dX4_setsReference_178 ?_
              refine q_getR (q_sh78 (w.fx fx20)) (by decide) (by decide) rfl lfX4_22 dX4_setsReference_179 (r := p) (aN.fx fx20).1 ?_
              refine q_getRN (q_shP0 (w.fx fx20) hp) (by decide) (by decide) rfl lfX4_243 dX4_setsReference_182 (r := (p + 33)) (q_wrP0_14 (w.fx fx20) hp) ?_
              refine q_iload 2 rfl dX4_setsReference_185 ?_
              obtain ⟨hg27, h⟩ := q_guard h
              refine q_iald (q_shP33 (w.fx fx20) hp) (q_inb_in hg27) dX4_setsReference_187 ?_
              obtain ⟨hg28, h⟩ := q_guard h
              refine q_iast (q_shP12 (w.fx fx20) hp) (q_inb_in hg28) dX4_setsReference_188 ?_
              obtain ⟨S29, e30, h⟩ := q_bindS h
              refine q_st e30 ?_
              have fx31 : q_Fx S S29 := e30 ▸ q_Fx.sI (fx20)
              refine q_iconst (v := (1 : Int32)) (by decide) dX4_setsReference_189 ?_
              obtain rfl := Option.some.inj h
              exact q_iret rfl (by decide) dX4_setsReference_190 hQ
            · rw [if_neg c] at h
              refine q_iconst (v := (0 : Int32)) (by decide) dX4_setsReference_168 ?_
              obtain rfl := Option.some.inj h
              exact q_iret rfl (by decide) dX4_setsReference_169 hQ
          replace h := hv
          refine q_icmp_ne 164 (by decide) dX4_setsReference_157 (fun c => ?_) (fun c => ?_)
          · rw [if_neg c] at h
            refine q_iconst (v := (0 : Int32)) (by decide) dX4_setsReference_164 ?_
            obtain rfl := Option.some.inj h
            refine q_sub [3, 4, 0] rfl ?_
            exact K1
          · rw [if_pos c] at h
            refine q_iconst (v := (1 : Int32)) (by decide) dX4_setsReference_160 ?_
            refine q_goto 165 (by decide) dX4_setsReference_161 ?_
            obtain rfl := Option.some.inj h
            refine q_sub [3, 4, 0] rfl ?_
            exact K1
      · rw [if_pos c] at h
        refine q_sub [2, 3, 1, 0] rfl ?_
        exact kX4_setsReference_70 (w.fx fx20) hp (aN.fx fx20) h hQ
  · rw [if_pos c] at h
    refine q_iconst (v := (0 : Int32)) (by decide) dX4_setsReference_56 ?_
    obtain rfl := Option.some.inj h
    exact q_iret rfl (by decide) dX4_setsReference_57 hQ
set_option maxRecDepth 20000 in
theorem kX4_addsInstruction {S : QS} {g : QG} {Q : Option Value → QS → Prop} {p : Nat} {x1 : Int32} {r : Bool × QS} (w : q_Wire S) (hp : q_pok p) (aN : q_aN S p) (h : fX4_addsInstruction S p x1 = some r) (hQ : Q (some (.int (q_b r.1))) r.2) : q_M g mX4_addsInstruction 7 0 0 [.ref 78, .int x1] S Q := by
  unfold fX4_addsInstruction at h
  show q_L g mX4_addsInstruction 7 0 0 Q 0 0 0 [(0, .ref 78), (1, .int x1)] [] S
  refine q_aload_n 0 rfl rfl dX4_addsInstruction_0 ?_
  refine q_getR (q_sh78 w) (by decide) (by decide) rfl lfX4_18 dX4_addsInstruction_1 (r := 2) (q_wr78_0 w) ?_
  refine q_getRN (q_sh2 w) (by decide) (by decide) rfl lfX4_47 dX4_addsInstruction_4 (r := 6) (q_wr2_4 w) ?_
  refine q_iload_n 1 rfl rfl dX4_addsInstruction_7 ?_
  obtain ⟨hg1, h⟩ := q_guard h
  refine q_bald (q_sh6 w) (q_inb_in hg1) dX4_addsInstruction_8 ?_
  refine q_istore_n [(2, .int (S.2.1 6 x1.toNatClampNeg)), (0, .ref 78), (1, .int x1)] rfl (by decide) rfl dX4_addsInstruction_9 ?_
  refine q_iload_n 2 rfl rfl dX4_addsInstruction_10 ?_
  refine q_iconst (v := (1 : Int32)) (by decide) dX4_addsInstruction_11 ?_
  refine q_iadd dX4_addsInstruction_12 ?_
  refine q_istore_n [(3, .int (x1 + (1 : Int32))), (2, .int (S.2.1 6 x1.toNatClampNeg)), (0, .ref 78), (1, .int x1)] rfl (by decide) rfl dX4_addsInstruction_13 ?_
  refine q_aload_n 2 rfl rfl dX4_addsInstruction_14 ?_
  refine q_getR (q_sh78 w) (by decide) (by decide) rfl lfX4_37 dX4_addsInstruction_15 (r := (p + 10)) (aN).2.2 ?_
  refine q_getIN (q_shP10 w hp) (by decide) (by decide) rfl lfX4_175 dX4_addsInstruction_18 ?_
  refine q_istore [(4, .int (S.2.1 (p + 10) 0)), (3, .int (x1 + (1 : Int32))), (2, .int (S.2.1 6 x1.toNatClampNeg)), (0, .ref 78), (1, .int x1)] (by decide) rfl dX4_addsInstruction_21 ?_
  refine q_aload_n 3 rfl rfl dX4_addsInstruction_23 ?_
  refine q_getR (q_sh78 w) (by decide) (by decide) rfl lfX4_37 dX4_addsInstruction_24 (r := (p + 10)) (aN).2.2 ?_
  refine q_iload_n 2 rfl rfl dX4_addsInstruction_27 ?_
  refine q_iload_n 4 rfl rfl dX4_addsInstruction_28 ?_
  refine q_aload_n 3 rfl rfl dX4_addsInstruction_29 ?_
  refine q_getI (q_sh78 w) (by decide) (by decide) rfl lfX4_150 dX4_addsInstruction_30 ?_
  obtain ⟨r2, e3, h⟩ := q_bind h
  refine q_callV (ci := 1) (d := 6) (Mc := mX1_addInstruction) (kc := 0) (nc := 0) [.int (S.2.1 6 x1.toNatClampNeg), .int x1, .int (S.2.1 78 8)] okX1_addInstruction (q_shP10 w hp) (by decide) rfl lmX4_219 inX1_addInstruction seX1_addInstruction rfl (Nat.le_of_ble_eq_true rfl) (Nat.le_of_ble_eq_true rfl) (Nat.le_refl _) (Nat.le_refl _) dX4_addsInstruction_33 (q_L.deep (by decide) (kX1_addInstruction (Q := fun r S' => r = none ∧ S' = r2) w hp e3 ⟨rfl, rfl⟩)) (q_kV ?_)
  have fx4 : q_Fx S r2 := q_Fx.tr (q_Fx.rf S) (fxX1_addInstruction e3)
  refine q_iload_n 2 rfl rfl dX4_addsInstruction_36 ?_
  by_cases c5 : (S.2.1 6 x1.toNatClampNeg) = (0 : Int32)
  · rw [if_pos c5] at h
    refine q_tabIn (M := mX4_addsInstruction) (pc := 37) (x := (S.2.1 6 x1.toNatClampNeg)) 216 (by rw [c5]; decide) (by rw [c5]; decide) (by rw [c5]; rfl) (by decide) dX4_addsInstruction_37 ?_
    refine q_aload_n 3 rfl rfl dX4_addsInstruction_216 ?_
    refine q_getR (q_sh78 (w.fx fx4)) (by decide) (by decide) rfl lfX4_37 dX4_addsInstruction_217 (r := (p + 10)) (aN.fx fx4).2.2 ?_
    refine q_getRN (q_shP10 (w.fx fx4) hp) (by decide) (by decide) rfl lfX4_222 dX4_addsInstruction_220 (r := (p + 12)) (q_wrP10_2 (w.fx fx4) hp) ?_
    refine q_iload 0 rfl dX4_addsInstruction_223 ?_
    refine q_aload_n 3 rfl rfl dX4_addsInstruction_225 ?_
    refine q_getR (q_sh78 (w.fx fx4)) (by decide) (by decide) rfl lfX4_18 dX4_addsInstruction_226 (r := 2) (q_wr78_0 (w.fx fx4)) ?_
    refine q_iload_n 1 rfl rfl dX4_addsInstruction_229 ?_
    obtain ⟨r6, e7, h⟩ := q_bind h
    refine q_callV (ci := 8) (d := 6) (Mc := mX8_number) (kc := 0) (nc := 0) [.int (x1 + (1 : Int32))] okX8_number (q_sh2 (w.fx fx4)) (by decide) rfl lmX4_122 inX8_number seX8_number rfl (Nat.le_of_ble_eq_true rfl) (Nat.le_of_ble_eq_true rfl) (Nat.le_refl _) (Nat.le_refl _) dX4_addsInstruction_230 (q_L.deep (by decide) (kX8_number (Q := fun r S' => r = some (.int r6) ∧ S' = r2) (w.fx fx4) e7 ⟨rfl, rfl⟩)) (q_kI ?_)
    obtain ⟨hg8, h⟩ := q_guard h
    refine q_iast (q_shP12 (w.fx fx4) hp) (q_inb_in hg8) dX4_addsInstruction_233 ?_
    obtain ⟨S9, e10, h⟩ := q_bindS h
    refine q_st e10 ?_
    have fx11 : q_Fx S S9 := e10 ▸ q_Fx.sI (fx4)
    refine q_iconst (v := (1 : Int32)) (by decide) dX4_addsInstruction_234 ?_
    obtain rfl := Option.some.inj h
    exact q_iret rfl (by decide) dX4_addsInstruction_235 hQ
  rw [if_neg c5] at h
  by_cases c12 : (S.2.1 6 x1.toNatClampNeg) = (2 : Int32) ∨ (S.2.1 6 x1.toNatClampNeg) = (3 : Int32) ∨ (S.2.1 6 x1.toNatClampNeg) = (4 : Int32)
  · rw [if_pos c12] at h
    have K : ∀ (hK : True), q_L g mX4_addsInstruction 7 0 0 Q 0 0 236 [(4, .int (S.2.1 (p + 10) 0)), (3, .int (x1 + (1 : Int32))), (2, .int (S.2.1 6 x1.toNatClampNeg)), (0, .ref 78), (1, .int x1)] [] r2 := by
      intro _
      refine q_aload_n 3 rfl rfl dX4_addsInstruction_236 ?_
      refine q_getR (q_sh78 (w.fx fx4)) (by decide) (by decide) rfl lfX4_37 dX4_addsInstruction_237 (r := (p + 10)) (aN.fx fx4).2.2 ?_
      refine q_getRN (q_shP10 (w.fx fx4) hp) (by decide) (by decide) rfl lfX4_222 dX4_addsInstruction_240 (r := (p + 12)) (q_wrP10_2 (w.fx fx4) hp) ?_
      refine q_iload 0 rfl dX4_addsInstruction_243 ?_
      refine q_aload_n 3 rfl rfl dX4_addsInstruction_245 ?_
      refine q_getR (q_sh78 (w.fx fx4)) (by decide) (by decide) rfl lfX4_18 dX4_addsInstruction_246 (r := 2) (q_wr78_0 (w.fx fx4)) ?_
      refine q_iload_n 1 rfl rfl dX4_addsInstruction_249 ?_
      obtain ⟨r13, e14, h⟩ := q_bind h
      refine q_callV (ci := 8) (d := 6) (Mc := mX8_number) (kc := 0) (nc := 0) [.int (x1 + (1 : Int32))] okX8_number (q_sh2 (w.fx fx4)) (by decide) rfl lmX4_122 inX8_number seX8_number rfl (Nat.le_of_ble_eq_true rfl) (Nat.le_of_ble_eq_true rfl) (Nat.le_refl _) (Nat.le_refl _) dX4_addsInstruction_250 (q_L.deep (by decide) (kX8_number (Q := fun r S' => r = some (.int r13) ∧ S' = r2) (w.fx fx4) e14 ⟨rfl, rfl⟩)) (q_kI ?_)
      obtain ⟨hg15, h⟩ := q_guard h
      refine q_iast (q_shP12 (w.fx fx4) hp) (q_inb_in hg15) dX4_addsInstruction_253 ?_
      obtain ⟨S16, e17, h⟩ := q_bindS h
      refine q_st e17 ?_
      have fx18 : q_Fx S S16 := e17 ▸ q_Fx.sI (fx4)
      refine q_aload_n 3 rfl rfl dX4_addsInstruction_254 ?_
      refine q_getR (q_sh78 (w.fx fx18)) (by decide) (by decide) rfl lfX4_37 dX4_addsInstruction_255 (r := (p + 10)) (aN.fx fx18).2.2 ?_
      refine q_getRN (q_shP10 (w.fx fx18) hp) (by decide) (by decide) rfl lfX4_225 dX4_addsInstruction_258 (r := (p + 13)) (q_wrP10_3 (w.fx fx18) hp) ?_
      refine q_iload 0 rfl dX4_addsInstruction_261 ?_
      refine q_iload_n 2 rfl rfl dX4_addsInstruction_263 ?_
      refine q_iconst (v := (4 : Int32)) (by decide) dX4_addsInstruction_264 ?_
      obtain ⟨v21, hv, h⟩ := q_bind h
      have K1 : q_L g mX4_addsInstruction 7 0 0 Q 0 0 282 [(0, .ref 78), (4, .int (S.2.1 (p + 10) 0))] [.int v21, .int (S.2.1 (p + 10) 0), .ref (p + 13)] S16 := by
        obtain ⟨hg22, h⟩ := q_guard h
        refine q_iast (q_shP13 (w.fx fx18) hp) (q_inb_in hg22) dX4_addsInstruction_282 ?_
        obtain ⟨S23, e24, h⟩ := q_bindS h
        refine q_st e24 ?_
        have fx25 : q_Fx S S23 := e24 ▸ q_Fx.sI (fx18)
        refine q_aload_n 0 rfl rfl dX4_addsInstruction_283 ?_
        refine q_getR (q_sh78 (w.fx fx25)) (by decide) (by decide) rfl lfX4_37 dX4_addsInstruction_284 (r := (p + 10)) (aN.fx fx25).2.2 ?_
        refine q_getRN (q_shP10 (w.fx fx25) hp) (by decide) (by decide) rfl lfX4_222 dX4_addsInstruction_287 (r := (p + 12)) (q_wrP10_2 (w.fx fx25) hp) ?_
        refine q_iload 1 rfl dX4_addsInstruction_290 ?_
        obtain ⟨hg26, h⟩ := q_guard h
        refine q_iald (q_shP12 (w.fx fx25) hp) (q_inb_in hg26) dX4_addsInstruction_292 ?_
        refine q_if_lt 325 (by decide) dX4_addsInstruction_293 (fun c => ?_) (fun c => ?_)
        · rw [if_pos c] at h
          refine q_iconst (v := (0 : Int32)) (by decide) dX4_addsInstruction_325 ?_
          obtain rfl := Option.some.inj h
          exact q_iret rfl (by decide) dX4_addsInstruction_326 hQ
        · rw [if_neg c] at h
          refine q_aload_n 0 rfl rfl dX4_addsInstruction_296 ?_
          refine q_getR (q_sh78 (w.fx fx25)) (by decide) (by decide) rfl lfX4_37 dX4_addsInstruction_297 (r := (p + 10)) (aN.fx fx25).2.2 ?_
          refine q_getRN (q_shP10 (w.fx fx25) hp) (by decide) (by decide) rfl lfX4_222 dX4_addsInstruction_300 (r := (p + 12)) (q_wrP10_2 (w.fx fx25) hp) ?_
          refine q_iload 1 rfl dX4_addsInstruction_303 ?_
          obtain ⟨hg27, h⟩ := q_guard h
          refine q_iald (q_shP12 (w.fx fx25) hp) (q_inb_in hg27) dX4_addsInstruction_305 ?_
          refine q_aload_n 0 rfl rfl dX4_addsInstruction_306 ?_
          refine q_getR (q_sh78 (w.fx fx25)) (by decide) (by decide) rfl lfX4_22 dX4_addsInstruction_307 (r := p) (aN.fx fx25).1 ?_
          refine q_getRN (q_shP0 (w.fx fx25) hp) (by decide) (by decide) rfl lfX4_131 dX4_addsInstruction_310 (r := (p + 28)) (q_wrP0_9 (w.fx fx25) hp) ?_
          refine q_aload_n 0 rfl rfl dX4_addsInstruction_313 ?_
          refine q_getI (q_sh78 (w.fx fx25)) (by decide) (by decide) rfl lfX4_150 dX4_addsInstruction_314 ?_
          obtain ⟨hg28, h⟩ := q_guard h
          refine q_iald (q_shP28 (w.fx fx25) hp) (q_inb_in hg28) dX4_addsInstruction_317 ?_
          refine q_icmp_ge 325 (by decide) dX4_addsInstruction_318 (fun c => ?_) (fun c => ?_)
          · rw [if_pos c] at h
            refine q_iconst (v := (0 : Int32)) (by decide) dX4_addsInstruction_325 ?_
            obtain rfl := Option.some.inj h
            exact q_iret rfl (by decide) dX4_addsInstruction_326 hQ
          · rw [if_neg c] at h
            refine q_iconst (v := (1 : Int32)) (by decide) dX4_addsInstruction_321 ?_
            refine q_goto 326 (by decide) dX4_addsInstruction_322 ?_
            obtain rfl := Option.some.inj h
            exact q_iret rfl (by decide) dX4_addsInstruction_326 hQ
      replace h := hv
      refine q_icmp_ne 281 (by decide) dX4_addsInstruction_265 (fun c => ?_) (fun c => ?_)
      · rw [if_neg c] at h
        refine q_iconst (v := (0 : Int32)) (by decide) dX4_addsInstruction_281 ?_
        obtain rfl := Option.some.inj h
        refine q_sub [3, 0] rfl ?_
        exact K1
      · rw [if_pos c] at h
        refine q_aload_n 3 rfl rfl dX4_addsInstruction_268 ?_
        refine q_getR (q_sh78 (w.fx fx18)) (by decide) (by decide) rfl lfX4_18 dX4_addsInstruction_269 (r := 2) (q_wr78_0 (w.fx fx18)) ?_
        refine q_iload_n 1 rfl rfl dX4_addsInstruction_272 ?_
        refine q_iconst (v := (1 : Int32)) (by decide) dX4_addsInstruction_273 ?_
        refine q_iadd dX4_addsInstruction_274 ?_
        obtain ⟨r19, e20, h⟩ := q_bind h
        refine q_callV (ci := 8) (d := 6) (Mc := mX8_number) (kc := 0) (nc := 0) [.int ((x1 + (1 : Int32)) + (1 : Int32))] okX8_number (q_sh2 (w.fx fx18)) (by decide) rfl lmX4_122 inX8_number seX8_number rfl (Nat.le_of_ble_eq_true rfl) (Nat.le_of_ble_eq_true rfl) (Nat.le_refl _) (Nat.le_refl _) dX4_addsInstruction_275 (q_L.deep (by decide) (kX8_number (Q := fun r S' => r = some (.int r19) ∧ S' = S16) (w.fx fx18) e20 ⟨rfl, rfl⟩)) (q_kI ?_)
        refine q_goto 282 (by decide) dX4_addsInstruction_278 ?_
        obtain rfl := Option.some.inj h
        refine q_sub [3, 0] rfl ?_
        exact K1
    rcases c12 with c12 | c12 | c12
    · exact q_tabIn (M := mX4_addsInstruction) (pc := 37) (x := (S.2.1 6 x1.toNatClampNeg)) 236 (by rw [c12]; decide) (by rw [c12]; decide) (by rw [c12]; rfl) (by decide) dX4_addsInstruction_37 (K trivial)
    · exact q_tabIn (M := mX4_addsInstruction) (pc := 37) (x := (S.2.1 6 x1.toNatClampNeg)) 236 (by rw [c12]; decide) (by rw [c12]; decide) (by rw [c12]; rfl) (by decide) dX4_addsInstruction_37 (K trivial)
    · exact q_tabIn (M := mX4_addsInstruction) (pc := 37) (x := (S.2.1 6 x1.toNatClampNeg)) 236 (by rw [c12]; decide) (by rw [c12]; decide) (by rw [c12]; rfl) (by decide) dX4_addsInstruction_37 (K trivial)
  rw [if_neg c12] at h
  by_cases c29 : (S.2.1 6 x1.toNatClampNeg) = (30 : Int32) ∨ (S.2.1 6 x1.toNatClampNeg) = (37 : Int32) ∨ (S.2.1 6 x1.toNatClampNeg) = (38 : Int32)
  · rw [if_pos c29] at h
    have K : ∀ (hK : True), q_L g mX4_addsInstruction 7 0 0 Q 0 0 327 [(4, .int (S.2.1 (p + 10) 0)), (3, .int (x1 + (1 : Int32))), (2, .int (S.2.1 6 x1.toNatClampNeg)), (0, .ref 78), (1, .int x1)] [] r2 := by
      intro _
      refine q_aload_n 3 rfl rfl dX4_addsInstruction_327 ?_
      refine q_getR (q_sh78 (w.fx fx4)) (by decide) (by decide) rfl lfX4_37 dX4_addsInstruction_328 (r := (p + 10)) (aN.fx fx4).2.2 ?_
      refine q_getRN (q_shP10 (w.fx fx4) hp) (by decide) (by decide) rfl lfX4_222 dX4_addsInstruction_331 (r := (p + 12)) (q_wrP10_2 (w.fx fx4) hp) ?_
      refine q_iload 0 rfl dX4_addsInstruction_334 ?_
      refine q_aload_n 3 rfl rfl dX4_addsInstruction_336 ?_
      refine q_iload_n 1 rfl rfl dX4_addsInstruction_337 ?_
      obtain ⟨r30, e31, h⟩ := q_bind h
      refine q_callV (ci := 4) (d := 6) (Mc := mX4_typeAt) (kc := 0) (nc := 0) [.int (x1 + (1 : Int32))] okX4_typeAt (q_sh78 (w.fx fx4)) (by decide) rfl lmX4_88 inX4_typeAt seX4_typeAt rfl (Nat.le_of_ble_eq_true rfl) (Nat.le_of_ble_eq_true rfl) (Nat.le_refl _) (Nat.le_refl _) dX4_addsInstruction_338 (q_L.deep (by decide) (kX4_typeAt (Q := fun r S' => r = some (.int r30) ∧ S' = r2) (w.fx fx4) hp (aN.fx fx4) e31 ⟨rfl, rfl⟩)) (q_kI ?_)
      obtain ⟨hg32, h⟩ := q_guard h
      refine q_iast (q_shP12 (w.fx fx4) hp) (q_inb_in hg32) dX4_addsInstruction_341 ?_
      obtain ⟨S33, e34, h⟩ := q_bindS h
      refine q_st e34 ?_
      have fx35 : q_Fx S S33 := e34 ▸ q_Fx.sI (fx4)
      refine q_aload_n 3 rfl rfl dX4_addsInstruction_342 ?_
      refine q_getR (q_sh78 (w.fx fx35)) (by decide) (by decide) rfl lfX4_37 dX4_addsInstruction_343 (r := (p + 10)) (aN.fx fx35).2.2 ?_
      refine q_getRN (q_shP10 (w.fx fx35) hp) (by decide) (by decide) rfl lfX4_222 dX4_addsInstruction_346 (r := (p + 12)) (q_wrP10_2 (w.fx fx35) hp) ?_
      refine q_iload 0 rfl dX4_addsInstruction_349 ?_
      obtain ⟨hg36, h⟩ := q_guard h
      refine q_iald (q_shP12 (w.fx fx35) hp) (q_inb_in hg36) dX4_addsInstruction_351 ?_
      refine q_iconst (v := (-1 : Int32)) (by decide) dX4_addsInstruction_352 ?_
      refine q_icmp_eq 360 (by decide) dX4_addsInstruction_353 (fun c => ?_) (fun c => ?_)
      · rw [if_pos c] at h
        refine q_iconst (v := (0 : Int32)) (by decide) dX4_addsInstruction_360 ?_
        obtain rfl := Option.some.inj h
        exact q_iret rfl (by decide) dX4_addsInstruction_361 hQ
      · rw [if_neg c] at h
        refine q_iconst (v := (1 : Int32)) (by decide) dX4_addsInstruction_356 ?_
        refine q_goto 361 (by decide) dX4_addsInstruction_357 ?_
        obtain rfl := Option.some.inj h
        exact q_iret rfl (by decide) dX4_addsInstruction_361 hQ
    rcases c29 with c29 | c29 | c29
    · exact q_tabIn (M := mX4_addsInstruction) (pc := 37) (x := (S.2.1 6 x1.toNatClampNeg)) 327 (by rw [c29]; decide) (by rw [c29]; decide) (by rw [c29]; rfl) (by decide) dX4_addsInstruction_37 (K trivial)
    · exact q_tabIn (M := mX4_addsInstruction) (pc := 37) (x := (S.2.1 6 x1.toNatClampNeg)) 327 (by rw [c29]; decide) (by rw [c29]; decide) (by rw [c29]; rfl) (by decide) dX4_addsInstruction_37 (K trivial)
    · exact q_tabIn (M := mX4_addsInstruction) (pc := 37) (x := (S.2.1 6 x1.toNatClampNeg)) 327 (by rw [c29]; decide) (by rw [c29]; decide) (by rw [c29]; rfl) (by decide) dX4_addsInstruction_37 (K trivial)
  rw [if_neg c29] at h
  by_cases c37 : (S.2.1 6 x1.toNatClampNeg) = (31 : Int32)
  · rw [if_pos c37] at h
    refine q_tabIn (M := mX4_addsInstruction) (pc := 37) (x := (S.2.1 6 x1.toNatClampNeg)) 362 (by rw [c37]; decide) (by rw [c37]; decide) (by rw [c37]; rfl) (by decide) dX4_addsInstruction_37 ?_
    refine q_aload_n 3 rfl rfl dX4_addsInstruction_362 ?_
    refine q_getR (q_sh78 (w.fx fx4)) (by decide) (by decide) rfl lfX4_37 dX4_addsInstruction_363 (r := (p + 10)) (aN.fx fx4).2.2 ?_
    refine q_getRN (q_shP10 (w.fx fx4) hp) (by decide) (by decide) rfl lfX4_222 dX4_addsInstruction_366 (r := (p + 12)) (q_wrP10_2 (w.fx fx4) hp) ?_
    refine q_iload 0 rfl dX4_addsInstruction_369 ?_
    refine q_aload_n 3 rfl rfl dX4_addsInstruction_371 ?_
    refine q_iload_n 1 rfl rfl dX4_addsInstruction_372 ?_
    obtain ⟨r38, e39, h⟩ := q_bind h
    refine q_callV (ci := 4) (d := 6) (Mc := mX4_typeAt) (kc := 0) (nc := 0) [.int (x1 + (1 : Int32))] okX4_typeAt (q_sh78 (w.fx fx4)) (by decide) rfl lmX4_88 inX4_typeAt seX4_typeAt rfl (Nat.le_of_ble_eq_true rfl) (Nat.le_of_ble_eq_true rfl) (Nat.le_refl _) (Nat.le_refl _) dX4_addsInstruction_373 (q_L.deep (by decide) (kX4_typeAt (Q := fun r S' => r = some (.int r38) ∧ S' = r2) (w.fx fx4) hp (aN.fx fx4) e39 ⟨rfl, rfl⟩)) (q_kI ?_)
    obtain ⟨r40, e41, h⟩ := q_bind h
    refine q_callS (d := 6) (Mc := mX4_arrayOf) (kc := 0) (nc := 0) [.int r38] okX4_arrayOf lmX4_228 inX4_arrayOf rfl (Nat.le_of_ble_eq_true rfl) (Nat.le_of_ble_eq_true rfl) (Nat.le_refl _) (Nat.le_refl _) dX4_addsInstruction_376 (q_L.deep (by decide) (kX4_arrayOf (Q := fun r S' => r = some (.int r40) ∧ S' = r2) (w.fx fx4) e41 ⟨rfl, rfl⟩)) (q_kI ?_)
    obtain ⟨hg42, h⟩ := q_guard h
    refine q_iast (q_shP12 (w.fx fx4) hp) (q_inb_in hg42) dX4_addsInstruction_379 ?_
    obtain ⟨S43, e44, h⟩ := q_bindS h
    refine q_st e44 ?_
    have fx45 : q_Fx S S43 := e44 ▸ q_Fx.sI (fx4)
    refine q_aload_n 3 rfl rfl dX4_addsInstruction_380 ?_
    refine q_getR (q_sh78 (w.fx fx45)) (by decide) (by decide) rfl lfX4_37 dX4_addsInstruction_381 (r := (p + 10)) (aN.fx fx45).2.2 ?_
    refine q_getRN (q_shP10 (w.fx fx45) hp) (by decide) (by decide) rfl lfX4_222 dX4_addsInstruction_384 (r := (p + 12)) (q_wrP10_2 (w.fx fx45) hp) ?_
    refine q_iload 0 rfl dX4_addsInstruction_387 ?_
    obtain ⟨hg46, h⟩ := q_guard h
    refine q_iald (q_shP12 (w.fx fx45) hp) (q_inb_in hg46) dX4_addsInstruction_389 ?_
    refine q_iconst (v := (-1 : Int32)) (by decide) dX4_addsInstruction_390 ?_
    refine q_icmp_eq 398 (by decide) dX4_addsInstruction_391 (fun c => ?_) (fun c => ?_)
    · rw [if_pos c] at h
      refine q_iconst (v := (0 : Int32)) (by decide) dX4_addsInstruction_398 ?_
      obtain rfl := Option.some.inj h
      exact q_iret rfl (by decide) dX4_addsInstruction_399 hQ
    · rw [if_neg c] at h
      refine q_iconst (v := (1 : Int32)) (by decide) dX4_addsInstruction_394 ?_
      refine q_goto 399 (by decide) dX4_addsInstruction_395 ?_
      obtain rfl := Option.some.inj h
      exact q_iret rfl (by decide) dX4_addsInstruction_399 hQ
  rw [if_neg c37] at h
  by_cases c47 : (S.2.1 6 x1.toNatClampNeg) = (35 : Int32) ∨ (S.2.1 6 x1.toNatClampNeg) = (36 : Int32) ∨ (S.2.1 6 x1.toNatClampNeg) = (39 : Int32) ∨ (S.2.1 6 x1.toNatClampNeg) = (40 : Int32)
  · rw [if_pos c47] at h
    have K : ∀ (hK : True), q_L g mX4_addsInstruction 7 0 0 Q 0 0 400 [(4, .int (S.2.1 (p + 10) 0)), (3, .int (x1 + (1 : Int32))), (2, .int (S.2.1 6 x1.toNatClampNeg)), (0, .ref 78), (1, .int x1)] [] r2 := by
      intro _
      refine q_aload_n 3 rfl rfl dX4_addsInstruction_400 ?_
      refine q_iload 0 rfl dX4_addsInstruction_401 ?_
      refine q_iload_n 2 rfl rfl dX4_addsInstruction_403 ?_
      refine q_iload_n 1 rfl rfl dX4_addsInstruction_404 ?_
      obtain ⟨r48, e49, h⟩ := q_bind h
      refine q_callV (ci := 4) (d := 6) (Mc := mX4_setsReference) (kc := 0) (nc := 0) [.int (S.2.1 (p + 10) 0), .int (S.2.1 6 x1.toNatClampNeg), .int (x1 + (1 : Int32))] okX4_setsReference (q_sh78 (w.fx fx4)) (by decide) rfl lmX4_231 inX4_setsReference seX4_setsReference rfl (Nat.le_of_ble_eq_true rfl) (Nat.le_of_ble_eq_true rfl) (Nat.le_refl _) (Nat.le_refl _) dX4_addsInstruction_405 (q_L.deep (by decide) (kX4_setsReference (Q := fun r S' => r = some (.int (q_b r48.1)) ∧ S' = r48.2) (w.fx fx4) hp (aN.fx fx4) e49 ⟨rfl, rfl⟩)) (q_kI ?_)
      have fx50 : q_Fx S r48.2 := q_Fx.tr (fx4) (fxX4_setsReference e49)
      obtain rfl := Option.some.inj h
      exact q_iret rfl (q_b_nar _) dX4_addsInstruction_408 hQ
    rcases c47 with c47 | c47 | c47 | c47
    · exact q_tabIn (M := mX4_addsInstruction) (pc := 37) (x := (S.2.1 6 x1.toNatClampNeg)) 400 (by rw [c47]; decide) (by rw [c47]; decide) (by rw [c47]; rfl) (by decide) dX4_addsInstruction_37 (K trivial)
    · exact q_tabIn (M := mX4_addsInstruction) (pc := 37) (x := (S.2.1 6 x1.toNatClampNeg)) 400 (by rw [c47]; decide) (by rw [c47]; decide) (by rw [c47]; rfl) (by decide) dX4_addsInstruction_37 (K trivial)
    · exact q_tabIn (M := mX4_addsInstruction) (pc := 37) (x := (S.2.1 6 x1.toNatClampNeg)) 400 (by rw [c47]; decide) (by rw [c47]; decide) (by rw [c47]; rfl) (by decide) dX4_addsInstruction_37 (K trivial)
    · exact q_tabIn (M := mX4_addsInstruction) (pc := 37) (x := (S.2.1 6 x1.toNatClampNeg)) 400 (by rw [c47]; decide) (by rw [c47]; decide) (by rw [c47]; rfl) (by decide) dX4_addsInstruction_37 (K trivial)
  rw [if_neg c47] at h
  have n64 : ¬ (S.2.1 6 x1.toNatClampNeg) = (2 : Int32) := (fun q => c12 (Or.inl q))
  have n65 : ¬ (S.2.1 6 x1.toNatClampNeg) = (3 : Int32) := (fun q => c12 (Or.inr (Or.inl q)))
  have n66 : ¬ (S.2.1 6 x1.toNatClampNeg) = (4 : Int32) := (fun q => c12 (Or.inr (Or.inr (q))))
  have n67 : ¬ (S.2.1 6 x1.toNatClampNeg) = (30 : Int32) := (fun q => c29 (Or.inl q))
  have n68 : ¬ (S.2.1 6 x1.toNatClampNeg) = (37 : Int32) := (fun q => c29 (Or.inr (Or.inl q)))
  have n69 : ¬ (S.2.1 6 x1.toNatClampNeg) = (38 : Int32) := (fun q => c29 (Or.inr (Or.inr (q))))
  have n70 : ¬ (S.2.1 6 x1.toNatClampNeg) = (35 : Int32) := (fun q => c47 (Or.inl q))
  have n71 : ¬ (S.2.1 6 x1.toNatClampNeg) = (36 : Int32) := (fun q => c47 (Or.inr (Or.inl q)))
  have n72 : ¬ (S.2.1 6 x1.toNatClampNeg) = (39 : Int32) := (fun q => c47 (Or.inr (Or.inr (Or.inl q))))
  have n73 : ¬ (S.2.1 6 x1.toNatClampNeg) = (40 : Int32) := (fun q => c47 (Or.inr (Or.inr (Or.inr (q)))))
  have K : ∀ (hK : True), q_L g mX4_addsInstruction 7 0 0 Q 0 0 409 [(4, .int (S.2.1 (p + 10) 0)), (3, .int (x1 + (1 : Int32))), (2, .int (S.2.1 6 x1.toNatClampNeg)), (0, .ref 78), (1, .int x1)] [] r2 := by
    intro _
    refine q_aload_n 3 rfl rfl dX4_addsInstruction_409 ?_
    refine q_getR (q_sh78 (w.fx fx4)) (by decide) (by decide) rfl lfX4_37 dX4_addsInstruction_410 (r := (p + 10)) (aN.fx fx4).2.2 ?_
    refine q_getRN (q_shP10 (w.fx fx4) hp) (by decide) (by decide) rfl lfX4_222 dX4_addsInstruction_413 (r := (p + 12)) (q_wrP10_2 (w.fx fx4) hp) ?_
    refine q_iload 0 rfl dX4_addsInstruction_416 ?_
    refine q_iload_n 2 rfl rfl dX4_addsInstruction_418 ?_
    obtain ⟨r51, e52, h⟩ := q_bind h
    refine q_callS (d := 6) (Mc := mX1_goesToLabel) (kc := 0) (nc := 0) [.int (S.2.1 6 x1.toNatClampNeg)] okX1_goesToLabel lmX4_234 inX1_goesToLabel rfl (Nat.le_of_ble_eq_true rfl) (Nat.le_of_ble_eq_true rfl) (Nat.le_refl _) (Nat.le_refl _) dX4_addsInstruction_419 (q_L.deep (by decide) (kX1_goesToLabel (Q := fun r S' => r = some (.int (q_b r51)) ∧ S' = r2) (w.fx fx4) e52 ⟨rfl, rfl⟩)) (q_kI ?_)
    obtain ⟨v55, hv, h⟩ := q_bind h
    have K2 : q_L g mX4_addsInstruction 7 0 0 Q 0 0 434 [(0, .ref 78), (2, .int (S.2.1 6 x1.toNatClampNeg)), (4, .int (S.2.1 (p + 10) 0))] [.int v55, .int (S.2.1 (p + 10) 0), .ref (p + 12)] r2 := by
      obtain ⟨hg56, h⟩ := q_guard h
      refine q_iast (q_shP12 (w.fx fx4) hp) (q_inb_in hg56) dX4_addsInstruction_434 ?_
      obtain ⟨S57, e58, h⟩ := q_bindS h
      refine q_st e58 ?_
      have fx59 : q_Fx S S57 := e58 ▸ q_Fx.sI (fx4)
      refine q_iload_n 1 rfl rfl dX4_addsInstruction_435 ?_
      obtain ⟨r60, e61, h⟩ := q_bind h
      refine q_callS (d := 6) (Mc := mX1_goesToLabel) (kc := 0) (nc := 0) [.int (S.2.1 6 x1.toNatClampNeg)] okX1_goesToLabel lmX4_234 inX1_goesToLabel rfl (Nat.le_of_ble_eq_true rfl) (Nat.le_of_ble_eq_true rfl) (Nat.le_refl _) (Nat.le_refl _) dX4_addsInstruction_436 (q_L.deep (by decide) (kX1_goesToLabel (Q := fun r S' => r = some (.int (q_b r60)) ∧ S' = S57) (w.fx fx59) e61 ⟨rfl, rfl⟩)) (q_kI ?_)
      refine q_if_eq 472 (by decide) dX4_addsInstruction_439 (fun c => ?_) (fun c => ?_)
      · have c := q_b_0.mp c; rw [q_if0 c] at h
        refine q_iconst (v := (1 : Int32)) (by decide) dX4_addsInstruction_472 ?_
        refine q_goto 477 (by decide) dX4_addsInstruction_473 ?_
        obtain rfl := Option.some.inj h
        exact q_iret rfl (by decide) dX4_addsInstruction_477 hQ
      · have c := q_b_n.mp c; rw [q_if1 c] at h
        refine q_aload_n 0 rfl rfl dX4_addsInstruction_442 ?_
        refine q_getR (q_sh78 (w.fx fx59)) (by decide) (by decide) rfl lfX4_37 dX4_addsInstruction_443 (r := (p + 10)) (aN.fx fx59).2.2 ?_
        refine q_getRN (q_shP10 (w.fx fx59) hp) (by decide) (by decide) rfl lfX4_222 dX4_addsInstruction_446 (r := (p + 12)) (q_wrP10_2 (w.fx fx59) hp) ?_
        refine q_iload 2 rfl dX4_addsInstruction_449 ?_
        obtain ⟨hg62, h⟩ := q_guard h
        refine q_iald (q_shP12 (w.fx fx59) hp) (q_inb_in hg62) dX4_addsInstruction_451 ?_
        refine q_if_lt 476 (by decide) dX4_addsInstruction_452 (fun c => ?_) (fun c => ?_)
        · rw [if_pos c] at h
          refine q_iconst (v := (0 : Int32)) (by decide) dX4_addsInstruction_476 ?_
          obtain rfl := Option.some.inj h
          exact q_iret rfl (by decide) dX4_addsInstruction_477 hQ
        · rw [if_neg c] at h
          refine q_aload_n 0 rfl rfl dX4_addsInstruction_455 ?_
          refine q_getR (q_sh78 (w.fx fx59)) (by decide) (by decide) rfl lfX4_37 dX4_addsInstruction_456 (r := (p + 10)) (aN.fx fx59).2.2 ?_
          refine q_getRN (q_shP10 (w.fx fx59) hp) (by decide) (by decide) rfl lfX4_222 dX4_addsInstruction_459 (r := (p + 12)) (q_wrP10_2 (w.fx fx59) hp) ?_
          refine q_iload 2 rfl dX4_addsInstruction_462 ?_
          obtain ⟨hg63, h⟩ := q_guard h
          refine q_iald (q_shP12 (w.fx fx59) hp) (q_inb_in hg63) dX4_addsInstruction_464 ?_
          refine q_aload_n 0 rfl rfl dX4_addsInstruction_465 ?_
          refine q_getI (q_sh78 (w.fx fx59)) (by decide) (by decide) rfl lfX4_187 dX4_addsInstruction_466 ?_
          refine q_icmp_ge 476 (by decide) dX4_addsInstruction_469 (fun c => ?_) (fun c => ?_)
          · rw [if_pos c] at h
            refine q_iconst (v := (0 : Int32)) (by decide) dX4_addsInstruction_476 ?_
            obtain rfl := Option.some.inj h
            exact q_iret rfl (by decide) dX4_addsInstruction_477 hQ
          · rw [if_neg c] at h
            refine q_iconst (v := (1 : Int32)) (by decide) dX4_addsInstruction_472 ?_
            refine q_goto 477 (by decide) dX4_addsInstruction_473 ?_
            obtain rfl := Option.some.inj h
            exact q_iret rfl (by decide) dX4_addsInstruction_477 hQ
    replace h := hv
    refine q_if_eq 433 (by decide) dX4_addsInstruction_422 (fun c => ?_) (fun c => ?_)
    · have c := q_b_0.mp c; rw [q_if0 c] at h
      refine q_iconst (v := (0 : Int32)) (by decide) dX4_addsInstruction_433 ?_
      obtain rfl := Option.some.inj h
      refine q_sub [3, 2, 0] rfl ?_
      exact K2
    · have c := q_b_n.mp c; rw [q_if1 c] at h
      refine q_aload_n 3 rfl rfl dX4_addsInstruction_425 ?_
      refine q_iload_n 1 rfl rfl dX4_addsInstruction_426 ?_
      obtain ⟨r53, e54, h⟩ := q_bind h
      refine q_callV (ci := 4) (d := 6) (Mc := mX4_placeNamed) (kc := 0) (nc := 0) [.int (x1 + (1 : Int32))] okX4_placeNamed (q_sh78 (w.fx fx4)) (by decide) rfl lmX4_192 inX4_placeNamed seX4_placeNamed rfl (Nat.le_of_ble_eq_true rfl) (Nat.le_of_ble_eq_true rfl) (Nat.le_refl _) (Nat.le_refl _) dX4_addsInstruction_427 (q_L.deep (by decide) (kX4_placeNamed (Q := fun r S' => r = some (.int r53) ∧ S' = r2) (w.fx fx4) e54 ⟨rfl, rfl⟩)) (q_kI ?_)
      refine q_goto 434 (by decide) dX4_addsInstruction_430 ?_
      obtain rfl := Option.some.inj h
      refine q_sub [3, 2, 0] rfl ?_
      exact K2
  by_cases n74 : (S.2.1 6 x1.toNatClampNeg) = (1 : Int32)
  · exact q_tabIn (M := mX4_addsInstruction) (pc := 37) (x := (S.2.1 6 x1.toNatClampNeg)) 409 (by rw [n74]; decide) (by rw [n74]; decide) (by rw [n74]; rfl) (by decide) dX4_addsInstruction_37 (K trivial)
  by_cases n75 : (S.2.1 6 x1.toNatClampNeg) = (5 : Int32)
  · exact q_tabIn (M := mX4_addsInstruction) (pc := 37) (x := (S.2.1 6 x1.toNatClampNeg)) 409 (by rw [n75]; decide) (by rw [n75]; decide) (by rw [n75]; rfl) (by decide) dX4_addsInstruction_37 (K trivial)
  by_cases n76 : (S.2.1 6 x1.toNatClampNeg) = (6 : Int32)
  · exact q_tabIn (M := mX4_addsInstruction) (pc := 37) (x := (S.2.1 6 x1.toNatClampNeg)) 409 (by rw [n76]; decide) (by rw [n76]; decide) (by rw [n76]; rfl) (by decide) dX4_addsInstruction_37 (K trivial)
  by_cases n77 : (S.2.1 6 x1.toNatClampNeg) = (7 : Int32)
  · exact q_tabIn (M := mX4_addsInstruction) (pc := 37) (x := (S.2.1 6 x1.toNatClampNeg)) 409 (by rw [n77]; decide) (by rw [n77]; decide) (by rw [n77]; rfl) (by decide) dX4_addsInstruction_37 (K trivial)
  by_cases n78 : (S.2.1 6 x1.toNatClampNeg) = (8 : Int32)
  · exact q_tabIn (M := mX4_addsInstruction) (pc := 37) (x := (S.2.1 6 x1.toNatClampNeg)) 409 (by rw [n78]; decide) (by rw [n78]; decide) (by rw [n78]; rfl) (by decide) dX4_addsInstruction_37 (K trivial)
  by_cases n79 : (S.2.1 6 x1.toNatClampNeg) = (9 : Int32)
  · exact q_tabIn (M := mX4_addsInstruction) (pc := 37) (x := (S.2.1 6 x1.toNatClampNeg)) 409 (by rw [n79]; decide) (by rw [n79]; decide) (by rw [n79]; rfl) (by decide) dX4_addsInstruction_37 (K trivial)
  by_cases n80 : (S.2.1 6 x1.toNatClampNeg) = (10 : Int32)
  · exact q_tabIn (M := mX4_addsInstruction) (pc := 37) (x := (S.2.1 6 x1.toNatClampNeg)) 409 (by rw [n80]; decide) (by rw [n80]; decide) (by rw [n80]; rfl) (by decide) dX4_addsInstruction_37 (K trivial)
  by_cases n81 : (S.2.1 6 x1.toNatClampNeg) = (11 : Int32)
  · exact q_tabIn (M := mX4_addsInstruction) (pc := 37) (x := (S.2.1 6 x1.toNatClampNeg)) 409 (by rw [n81]; decide) (by rw [n81]; decide) (by rw [n81]; rfl) (by decide) dX4_addsInstruction_37 (K trivial)
  by_cases n82 : (S.2.1 6 x1.toNatClampNeg) = (12 : Int32)
  · exact q_tabIn (M := mX4_addsInstruction) (pc := 37) (x := (S.2.1 6 x1.toNatClampNeg)) 409 (by rw [n82]; decide) (by rw [n82]; decide) (by rw [n82]; rfl) (by decide) dX4_addsInstruction_37 (K trivial)
  by_cases n83 : (S.2.1 6 x1.toNatClampNeg) = (13 : Int32)
  · exact q_tabIn (M := mX4_addsInstruction) (pc := 37) (x := (S.2.1 6 x1.toNatClampNeg)) 409 (by rw [n83]; decide) (by rw [n83]; decide) (by rw [n83]; rfl) (by decide) dX4_addsInstruction_37 (K trivial)
  by_cases n84 : (S.2.1 6 x1.toNatClampNeg) = (14 : Int32)
  · exact q_tabIn (M := mX4_addsInstruction) (pc := 37) (x := (S.2.1 6 x1.toNatClampNeg)) 409 (by rw [n84]; decide) (by rw [n84]; decide) (by rw [n84]; rfl) (by decide) dX4_addsInstruction_37 (K trivial)
  by_cases n85 : (S.2.1 6 x1.toNatClampNeg) = (15 : Int32)
  · exact q_tabIn (M := mX4_addsInstruction) (pc := 37) (x := (S.2.1 6 x1.toNatClampNeg)) 409 (by rw [n85]; decide) (by rw [n85]; decide) (by rw [n85]; rfl) (by decide) dX4_addsInstruction_37 (K trivial)
  by_cases n86 : (S.2.1 6 x1.toNatClampNeg) = (16 : Int32)
  · exact q_tabIn (M := mX4_addsInstruction) (pc := 37) (x := (S.2.1 6 x1.toNatClampNeg)) 409 (by rw [n86]; decide) (by rw [n86]; decide) (by rw [n86]; rfl) (by decide) dX4_addsInstruction_37 (K trivial)
  by_cases n87 : (S.2.1 6 x1.toNatClampNeg) = (17 : Int32)
  · exact q_tabIn (M := mX4_addsInstruction) (pc := 37) (x := (S.2.1 6 x1.toNatClampNeg)) 409 (by rw [n87]; decide) (by rw [n87]; decide) (by rw [n87]; rfl) (by decide) dX4_addsInstruction_37 (K trivial)
  by_cases n88 : (S.2.1 6 x1.toNatClampNeg) = (18 : Int32)
  · exact q_tabIn (M := mX4_addsInstruction) (pc := 37) (x := (S.2.1 6 x1.toNatClampNeg)) 409 (by rw [n88]; decide) (by rw [n88]; decide) (by rw [n88]; rfl) (by decide) dX4_addsInstruction_37 (K trivial)
  by_cases n89 : (S.2.1 6 x1.toNatClampNeg) = (19 : Int32)
  · exact q_tabIn (M := mX4_addsInstruction) (pc := 37) (x := (S.2.1 6 x1.toNatClampNeg)) 409 (by rw [n89]; decide) (by rw [n89]; decide) (by rw [n89]; rfl) (by decide) dX4_addsInstruction_37 (K trivial)
  by_cases n90 : (S.2.1 6 x1.toNatClampNeg) = (20 : Int32)
  · exact q_tabIn (M := mX4_addsInstruction) (pc := 37) (x := (S.2.1 6 x1.toNatClampNeg)) 409 (by rw [n90]; decide) (by rw [n90]; decide) (by rw [n90]; rfl) (by decide) dX4_addsInstruction_37 (K trivial)
  by_cases n91 : (S.2.1 6 x1.toNatClampNeg) = (21 : Int32)
  · exact q_tabIn (M := mX4_addsInstruction) (pc := 37) (x := (S.2.1 6 x1.toNatClampNeg)) 409 (by rw [n91]; decide) (by rw [n91]; decide) (by rw [n91]; rfl) (by decide) dX4_addsInstruction_37 (K trivial)
  by_cases n92 : (S.2.1 6 x1.toNatClampNeg) = (22 : Int32)
  · exact q_tabIn (M := mX4_addsInstruction) (pc := 37) (x := (S.2.1 6 x1.toNatClampNeg)) 409 (by rw [n92]; decide) (by rw [n92]; decide) (by rw [n92]; rfl) (by decide) dX4_addsInstruction_37 (K trivial)
  by_cases n93 : (S.2.1 6 x1.toNatClampNeg) = (23 : Int32)
  · exact q_tabIn (M := mX4_addsInstruction) (pc := 37) (x := (S.2.1 6 x1.toNatClampNeg)) 409 (by rw [n93]; decide) (by rw [n93]; decide) (by rw [n93]; rfl) (by decide) dX4_addsInstruction_37 (K trivial)
  by_cases n94 : (S.2.1 6 x1.toNatClampNeg) = (24 : Int32)
  · exact q_tabIn (M := mX4_addsInstruction) (pc := 37) (x := (S.2.1 6 x1.toNatClampNeg)) 409 (by rw [n94]; decide) (by rw [n94]; decide) (by rw [n94]; rfl) (by decide) dX4_addsInstruction_37 (K trivial)
  by_cases n95 : (S.2.1 6 x1.toNatClampNeg) = (25 : Int32)
  · exact q_tabIn (M := mX4_addsInstruction) (pc := 37) (x := (S.2.1 6 x1.toNatClampNeg)) 409 (by rw [n95]; decide) (by rw [n95]; decide) (by rw [n95]; rfl) (by decide) dX4_addsInstruction_37 (K trivial)
  by_cases n96 : (S.2.1 6 x1.toNatClampNeg) = (26 : Int32)
  · exact q_tabIn (M := mX4_addsInstruction) (pc := 37) (x := (S.2.1 6 x1.toNatClampNeg)) 409 (by rw [n96]; decide) (by rw [n96]; decide) (by rw [n96]; rfl) (by decide) dX4_addsInstruction_37 (K trivial)
  by_cases n97 : (S.2.1 6 x1.toNatClampNeg) = (27 : Int32)
  · exact q_tabIn (M := mX4_addsInstruction) (pc := 37) (x := (S.2.1 6 x1.toNatClampNeg)) 409 (by rw [n97]; decide) (by rw [n97]; decide) (by rw [n97]; rfl) (by decide) dX4_addsInstruction_37 (K trivial)
  by_cases n98 : (S.2.1 6 x1.toNatClampNeg) = (28 : Int32)
  · exact q_tabIn (M := mX4_addsInstruction) (pc := 37) (x := (S.2.1 6 x1.toNatClampNeg)) 409 (by rw [n98]; decide) (by rw [n98]; decide) (by rw [n98]; rfl) (by decide) dX4_addsInstruction_37 (K trivial)
  by_cases n99 : (S.2.1 6 x1.toNatClampNeg) = (29 : Int32)
  · exact q_tabIn (M := mX4_addsInstruction) (pc := 37) (x := (S.2.1 6 x1.toNatClampNeg)) 409 (by rw [n99]; decide) (by rw [n99]; decide) (by rw [n99]; rfl) (by decide) dX4_addsInstruction_37 (K trivial)
  by_cases n100 : (S.2.1 6 x1.toNatClampNeg) = (32 : Int32)
  · exact q_tabIn (M := mX4_addsInstruction) (pc := 37) (x := (S.2.1 6 x1.toNatClampNeg)) 409 (by rw [n100]; decide) (by rw [n100]; decide) (by rw [n100]; rfl) (by decide) dX4_addsInstruction_37 (K trivial)
  by_cases n101 : (S.2.1 6 x1.toNatClampNeg) = (33 : Int32)
  · exact q_tabIn (M := mX4_addsInstruction) (pc := 37) (x := (S.2.1 6 x1.toNatClampNeg)) 409 (by rw [n101]; decide) (by rw [n101]; decide) (by rw [n101]; rfl) (by decide) dX4_addsInstruction_37 (K trivial)
  by_cases n102 : (S.2.1 6 x1.toNatClampNeg) = (34 : Int32)
  · exact q_tabIn (M := mX4_addsInstruction) (pc := 37) (x := (S.2.1 6 x1.toNatClampNeg)) 409 (by rw [n102]; decide) (by rw [n102]; decide) (by rw [n102]; rfl) (by decide) dX4_addsInstruction_37 (K trivial)
  exact q_tabOut (M := mX4_addsInstruction) (pc := 37) (x := (S.2.1 6 x1.toNatClampNeg)) 409 (by have := lv_neT (a := 0) c5 (by decide); have := lv_neT (a := 2) n64 (by decide); have := lv_neT (a := 3) n65 (by decide); have := lv_neT (a := 4) n66 (by decide); have := lv_neT (a := 30) n67 (by decide); have := lv_neT (a := 37) n68 (by decide); have := lv_neT (a := 38) n69 (by decide); have := lv_neT (a := 31) c37 (by decide); have := lv_neT (a := 35) n70 (by decide); have := lv_neT (a := 36) n71 (by decide); have := lv_neT (a := 39) n72 (by decide); have := lv_neT (a := 40) n73 (by decide); have := lv_neT (a := 1) n74 (by decide); have := lv_neT (a := 5) n75 (by decide); have := lv_neT (a := 6) n76 (by decide); have := lv_neT (a := 7) n77 (by decide); have := lv_neT (a := 8) n78 (by decide); have := lv_neT (a := 9) n79 (by decide); have := lv_neT (a := 10) n80 (by decide); have := lv_neT (a := 11) n81 (by decide); have := lv_neT (a := 12) n82 (by decide); have := lv_neT (a := 13) n83 (by decide); have := lv_neT (a := 14) n84 (by decide); have := lv_neT (a := 15) n85 (by decide); have := lv_neT (a := 16) n86 (by decide); have := lv_neT (a := 17) n87 (by decide); have := lv_neT (a := 18) n88 (by decide); have := lv_neT (a := 19) n89 (by decide); have := lv_neT (a := 20) n90 (by decide); have := lv_neT (a := 21) n91 (by decide); have := lv_neT (a := 22) n92 (by decide); have := lv_neT (a := 23) n93 (by decide); have := lv_neT (a := 24) n94 (by decide); have := lv_neT (a := 25) n95 (by decide); have := lv_neT (a := 26) n96 (by decide); have := lv_neT (a := 27) n97 (by decide); have := lv_neT (a := 28) n98 (by decide); have := lv_neT (a := 29) n99 (by decide); have := lv_neT (a := 32) n100 (by decide); have := lv_neT (a := 33) n101 (by decide); have := lv_neT (a := 34) n102 (by decide); omega) (by decide) dX4_addsInstruction_37 (K trivial)
