set_option maxRecDepth 20000 in
theorem sX4_lineFault_7 {g : QG} {Q : Option Value → QS → Prop} {p : Nat}  {x : Int32 × QS} {z : (Int32 × QS) ⊕ (Int32 × QS)} (w : q_Wire x.2) (hp : q_pok p) (aN : q_aN x.2 p) (h : tX4_lineFault_7 p x = some z) (hQ : (Sum.elim (fun r0 : Int32 × QS => Q (some (.int r0.1)) r0.2) (fun y : Int32 × QS => q_L g mX4_lineFault 8 0 0 Q 0 0 7 [(0, .ref 78), (1, .int y.1)] [] y.2) z)) : q_L g mX4_lineFault 8 0 0 Q 0 0 7 [(0, .ref 78), (1, .int x.1)] [] x.2 := by
  unfold tX4_lineFault_7 at h
  refine q_iload_n 1 rfl rfl dX4_lineFault_7 ?_
  refine q_aload_n 0 rfl rfl dX4_lineFault_8 ?_
  refine q_getR (q_sh78 w) (by decide) (by decide) rfl lfX4_18 dX4_lineFault_9 (r := 2) (q_wr78_0 w) ?_
  refine q_getIN (q_sh2 w) (by decide) (by decide) rfl lfX4_41 dX4_lineFault_12 ?_
  refine q_icmp_ge 168 (by decide) dX4_lineFault_15 (fun c => ?_) (fun c => ?_)
  · rw [if_pos c] at h
    refine q_iconst (v := (-1 : Int32)) (by decide) dX4_lineFault_168 ?_
    cases h
    exact q_iret rfl rfl dX4_lineFault_169 hQ
  · rw [if_neg c] at h
    refine q_iconst (v := (-1 : Int32)) (by decide) dX4_lineFault_18 ?_
    refine q_istore_n [(2, .int (-1 : Int32)), (0, .ref 78), (1, .int x.1)] rfl (by decide) rfl dX4_lineFault_19 ?_
    refine q_aload_n 1 rfl rfl dX4_lineFault_20 ?_
    refine q_getR (q_sh78 w) (by decide) (by decide) rfl lfX4_18 dX4_lineFault_21 (r := 2) (q_wr78_0 w) ?_
    refine q_getRN (q_sh2 w) (by decide) (by decide) rfl lfX4_47 dX4_lineFault_24 (r := 6) (q_wr2_4 w) ?_
    refine q_iload_n 2 rfl rfl dX4_lineFault_27 ?_
    obtain ⟨hg1, h⟩ := q_guard h
    refine q_bald (q_sh6 w) (q_inb_in hg1) dX4_lineFault_28 ?_
    obtain ⟨v30, hv, h⟩ := q_bind h
    have fx31 : q_Fx x.2 v30.2 := by
      replace h := hv
      by_cases c2 : (x.2.2.1 6 x.1.toNatClampNeg) = (46 : Int32)
      · rw [if_pos c2] at h
        obtain ⟨r3, e4, h⟩ := q_bind h
        have fx5 : q_Fx x.2 r3.2 := q_Fx.tr (q_Fx.rf x.2) (fxX4_catchFault e4)
        obtain rfl := Option.some.inj h
        exact fx5
      rw [if_neg c2] at h
      by_cases c6 : (x.2.2.1 6 x.1.toNatClampNeg) = (47 : Int32)
      · rw [if_pos c6] at h
        obtain ⟨r7, e8, h⟩ := q_bind h
        obtain ⟨v9, hv, h⟩ := q_bind h
        obtain rfl := Option.some.inj h
        exact q_Fx.rf _
      rw [if_neg c6] at h
      by_cases c10 : (x.2.2.1 6 x.1.toNatClampNeg) = (48 : Int32) ∨ (x.2.2.1 6 x.1.toNatClampNeg) = (49 : Int32) ∨ (x.2.2.1 6 x.1.toNatClampNeg) = (53 : Int32)
      · rw [if_pos c10] at h
        obtain rfl := Option.some.inj h
        exact q_Fx.rf _
      rw [if_neg c10] at h
      by_cases c11 : (x.2.2.1 6 x.1.toNatClampNeg) = (50 : Int32) ∨ (x.2.2.1 6 x.1.toNatClampNeg) = (51 : Int32)
      · rw [if_pos c11] at h
        obtain ⟨r12, e13, h⟩ := q_bind h
        have fx14 : q_Fx x.2 r12 := q_Fx.tr (q_Fx.rf x.2) (fxX4_beginBody e13)
        obtain rfl := Option.some.inj h
        exact fx14
      rw [if_neg c11] at h
      by_cases c15 : (x.2.2.1 6 x.1.toNatClampNeg) = (52 : Int32)
      · rw [if_pos c15] at h
        obtain ⟨r16, e17, h⟩ := q_bind h
        have fx18 : q_Fx x.2 r16.2 := q_Fx.tr (q_Fx.rf x.2) (fxX4_endFault e17)
        obtain rfl := Option.some.inj h
        exact fx18
      rw [if_neg c15] at h
      obtain ⟨hg19, h⟩ := q_guard h
      obtain ⟨r20, e21, h⟩ := q_bind h
      by_cases c : r20 = true
      · rw [if_pos c] at h
        obtain ⟨r22, e23, h⟩ := q_bind h
        have fx24 : q_Fx x.2 r22.2 := q_Fx.tr (q_Fx.rf x.2) (fxX4_addsInstruction e23)
        by_cases c : r22.1 = true
        · rw [if_pos c] at h
          obtain rfl := Option.some.inj h
          exact fx24
        · rw [if_neg c] at h
          obtain rfl := Option.some.inj h
          exact fx24
      · rw [if_neg c] at h
        obtain rfl := Option.some.inj h
        exact q_Fx.rf _
    have K1 : q_L g mX4_lineFault 8 0 0 Q 0 0 155 [(0, .ref 78), (1, .int x.1), (2, .int v30.1)] [] v30.2 := by
      refine q_iload_n 2 rfl rfl dX4_lineFault_155 ?_
      refine q_iconst (v := (-1 : Int32)) (by decide) dX4_lineFault_156 ?_
      refine q_icmp_eq 162 (by decide) dX4_lineFault_157 (fun c => ?_) (fun c => ?_)
      · rw [if_pos c] at h
        refine q_iinc (v := (x.1 + (1 : Int32))) 1 [(1, .int (x.1 + (1 : Int32))), (0, .ref 78), (2, .int v30.1)] (by decide) rfl (congrArg (fun t => x.1 + t) (by decide)) rfl dX4_lineFault_162 ?_
        refine q_goto 7 (by decide) dX4_lineFault_165 ?_
        refine q_sub [1, 0] rfl ?_
        cases h
        exact hQ
      · rw [if_neg c] at h
        refine q_iload_n 2 rfl rfl dX4_lineFault_160 ?_
        cases h
        exact q_iret rfl rfl dX4_lineFault_161 hQ
    replace h := hv
    by_cases c2 : (x.2.2.1 6 x.1.toNatClampNeg) = (46 : Int32)
    · rw [if_pos c2] at h
      refine q_tabIn (M := mX4_lineFault) (pc := 29) (x := (x.2.2.1 6 x.1.toNatClampNeg)) 104 (by rw [c2]; decide) (by rw [c2]; decide) (by rw [c2]; rfl) (by decide) dX4_lineFault_29 ?_
      refine q_aload_n 1 rfl rfl dX4_lineFault_104 ?_
      refine q_iload_n 2 rfl rfl dX4_lineFault_105 ?_
      obtain ⟨r3, e4, h⟩ := q_bind h
      refine q_callV (ci := 4) (d := 7) (Mc := mX4_catchFault) (kc := 0) (nc := 0) [.int x.1] okX4_catchFault (q_sh78 w) (by decide) rfl lmX4_160 inX4_catchFault seX4_catchFault rfl (Nat.le_of_ble_eq_true rfl) (Nat.le_of_ble_eq_true rfl) (Nat.le_refl _) (Nat.le_refl _) dX4_lineFault_106 (q_L.deep (by decide) (kX4_catchFault (Q := fun r S' => r = some (.int r3.1) ∧ S' = r3.2) w hp (aN) e4 ⟨rfl, rfl⟩)) (q_kI ?_)
      have fx5 : q_Fx x.2 r3.2 := q_Fx.tr (q_Fx.rf x.2) (fxX4_catchFault e4)
      refine q_istore_n [(2, .int r3.1), (0, .ref 78), (1, .int x.1)] rfl (by decide) rfl dX4_lineFault_109 ?_
      refine q_goto 155 (by decide) dX4_lineFault_110 ?_
      obtain rfl := Option.some.inj h
      refine q_sub [1, 2, 0] rfl ?_
      exact K1
    rw [if_neg c2] at h
    by_cases c6 : (x.2.2.1 6 x.1.toNatClampNeg) = (47 : Int32)
    · rw [if_pos c6] at h
      refine q_tabIn (M := mX4_lineFault) (pc := 29) (x := (x.2.2.1 6 x.1.toNatClampNeg)) 87 (by rw [c6]; decide) (by rw [c6]; decide) (by rw [c6]; rfl) (by decide) dX4_lineFault_29 ?_
      refine q_aload_n 1 rfl rfl dX4_lineFault_87 ?_
      refine q_iload_n 2 rfl rfl dX4_lineFault_88 ?_
      obtain ⟨r7, e8, h⟩ := q_bind h
      refine q_callV (ci := 4) (d := 7) (Mc := mX4_isFirstLabel) (kc := 0) (nc := 0) [.int x.1] okX4_isFirstLabel (q_sh78 w) (by decide) rfl lmX4_156 inX4_isFirstLabel seX4_isFirstLabel rfl (Nat.le_of_ble_eq_true rfl) (Nat.le_of_ble_eq_true rfl) (Nat.le_refl _) (Nat.le_refl _) dX4_lineFault_89 (q_L.deep (by decide) (kX4_isFirstLabel (Q := fun r S' => r = some (.int (q_b r7)) ∧ S' = x.2) w e8 ⟨rfl, rfl⟩)) (q_kI ?_)
      obtain ⟨v9, hv, h⟩ := q_bind h
      have K2 : q_L g mX4_lineFault 8 0 0 Q 0 0 100 [(0, .ref 78), (1, .int x.1)] [.int v9] x.2 := by
        refine q_istore_n [(2, .int v9), (0, .ref 78), (1, .int x.1)] rfl (by decide) rfl dX4_lineFault_100 ?_
        refine q_goto 155 (by decide) dX4_lineFault_101 ?_
        obtain rfl := Option.some.inj h
        refine q_sub [1, 2, 0] rfl ?_
        exact K1
      replace h := hv
      refine q_if_eq 99 (by decide) dX4_lineFault_92 (fun c => ?_) (fun c => ?_)
      · have c := q_b_0.mp c; rw [q_if0 c] at h
        refine q_iload_n 2 rfl rfl dX4_lineFault_99 ?_
        obtain rfl := Option.some.inj h
        refine q_sub [1, 2] rfl ?_
        exact K2
      · have c := q_b_n.mp c; rw [q_if1 c] at h
        refine q_iconst (v := (-1 : Int32)) (by decide) dX4_lineFault_95 ?_
        refine q_goto 100 (by decide) dX4_lineFault_96 ?_
        obtain rfl := Option.some.inj h
        refine q_sub [1, 2] rfl ?_
        exact K2
    rw [if_neg c6] at h
    by_cases c10 : (x.2.2.1 6 x.1.toNatClampNeg) = (48 : Int32) ∨ (x.2.2.1 6 x.1.toNatClampNeg) = (49 : Int32) ∨ (x.2.2.1 6 x.1.toNatClampNeg) = (53 : Int32)
    · rw [if_pos c10] at h
      have K : ∀ (hK : True), q_L g mX4_lineFault 8 0 0 Q 0 0 76 [(2, .int (-1 : Int32)), (0, .ref 78), (1, .int x.1)] [] x.2 := by
        intro _
        refine q_goto 155 (by decide) dX4_lineFault_76 ?_
        obtain rfl := Option.some.inj h
        refine q_sub [1, 2, 0] rfl ?_
        exact K1
      rcases c10 with c10 | c10 | c10
      · exact q_tabIn (M := mX4_lineFault) (pc := 29) (x := (x.2.2.1 6 x.1.toNatClampNeg)) 76 (by rw [c10]; decide) (by rw [c10]; decide) (by rw [c10]; rfl) (by decide) dX4_lineFault_29 (K trivial)
      · exact q_tabIn (M := mX4_lineFault) (pc := 29) (x := (x.2.2.1 6 x.1.toNatClampNeg)) 76 (by rw [c10]; decide) (by rw [c10]; decide) (by rw [c10]; rfl) (by decide) dX4_lineFault_29 (K trivial)
      · exact q_tabIn (M := mX4_lineFault) (pc := 29) (x := (x.2.2.1 6 x.1.toNatClampNeg)) 76 (by rw [c10]; decide) (by rw [c10]; decide) (by rw [c10]; rfl) (by decide) dX4_lineFault_29 (K trivial)
    rw [if_neg c10] at h
    by_cases c11 : (x.2.2.1 6 x.1.toNatClampNeg) = (50 : Int32) ∨ (x.2.2.1 6 x.1.toNatClampNeg) = (51 : Int32)
    · rw [if_pos c11] at h
      have K : ∀ (hK : True), q_L g mX4_lineFault 8 0 0 Q 0 0 79 [(2, .int (-1 : Int32)), (0, .ref 78), (1, .int x.1)] [] x.2 := by
        intro _
        refine q_aload_n 1 rfl rfl dX4_lineFault_79 ?_
        refine q_iload_n 2 rfl rfl dX4_lineFault_80 ?_
        obtain ⟨r12, e13, h⟩ := q_bind h
        refine q_callV (ci := 4) (d := 7) (Mc := mX4_beginBody) (kc := 0) (nc := 0) [.int x.1] okX4_beginBody (q_sh78 w) (by decide) rfl lmX4_153 inX4_beginBody seX4_beginBody rfl (Nat.le_of_ble_eq_true rfl) (Nat.le_of_ble_eq_true rfl) (Nat.le_refl _) (Nat.le_refl _) dX4_lineFault_81 (q_L.deep (by decide) (kX4_beginBody (Q := fun r S' => r = none ∧ S' = r12) w hp (aN) e13 ⟨rfl, rfl⟩)) (q_kV ?_)
        have fx14 : q_Fx x.2 r12 := q_Fx.tr (q_Fx.rf x.2) (fxX4_beginBody e13)
        refine q_goto 155 (by decide) dX4_lineFault_84 ?_
        obtain rfl := Option.some.inj h
        refine q_sub [1, 2, 0] rfl ?_
        exact K1
      rcases c11 with c11 | c11
      · exact q_tabIn (M := mX4_lineFault) (pc := 29) (x := (x.2.2.1 6 x.1.toNatClampNeg)) 79 (by rw [c11]; decide) (by rw [c11]; decide) (by rw [c11]; rfl) (by decide) dX4_lineFault_29 (K trivial)
      · exact q_tabIn (M := mX4_lineFault) (pc := 29) (x := (x.2.2.1 6 x.1.toNatClampNeg)) 79 (by rw [c11]; decide) (by rw [c11]; decide) (by rw [c11]; rfl) (by decide) dX4_lineFault_29 (K trivial)
    rw [if_neg c11] at h
    by_cases c15 : (x.2.2.1 6 x.1.toNatClampNeg) = (52 : Int32)
    · rw [if_pos c15] at h
      refine q_tabIn (M := mX4_lineFault) (pc := 29) (x := (x.2.2.1 6 x.1.toNatClampNeg)) 113 (by rw [c15]; decide) (by rw [c15]; decide) (by rw [c15]; rfl) (by decide) dX4_lineFault_29 ?_
      refine q_aload_n 1 rfl rfl dX4_lineFault_113 ?_
      refine q_iload_n 2 rfl rfl dX4_lineFault_114 ?_
      obtain ⟨r16, e17, h⟩ := q_bind h
      refine q_callV (ci := 4) (d := 7) (Mc := mX4_endFault) (kc := 0) (nc := 0) [.int x.1] okX4_endFault (q_sh78 w) (by decide) rfl lmX4_163 inX4_endFault seX4_endFault rfl (Nat.le_of_ble_eq_true rfl) (Nat.le_of_ble_eq_true rfl) (Nat.le_refl _) (Nat.le_refl _) dX4_lineFault_115 (q_L.deep (by decide) (kX4_endFault (Q := fun r S' => r = some (.int r16.1) ∧ S' = r16.2) w hp (aN) e17 ⟨rfl, rfl⟩)) (q_kI ?_)
      have fx18 : q_Fx x.2 r16.2 := q_Fx.tr (q_Fx.rf x.2) (fxX4_endFault e17)
      refine q_istore_n [(2, .int r16.1), (0, .ref 78), (1, .int x.1)] rfl (by decide) rfl dX4_lineFault_118 ?_
      refine q_goto 155 (by decide) dX4_lineFault_119 ?_
      obtain rfl := Option.some.inj h
      refine q_sub [1, 2, 0] rfl ?_
      exact K1
    rw [if_neg c15] at h
    have n25 : ¬ (x.2.2.1 6 x.1.toNatClampNeg) = (48 : Int32) := (fun q => c10 (Or.inl q))
    have n26 : ¬ (x.2.2.1 6 x.1.toNatClampNeg) = (49 : Int32) := (fun q => c10 (Or.inr (Or.inl q)))
    have n27 : ¬ (x.2.2.1 6 x.1.toNatClampNeg) = (53 : Int32) := (fun q => c10 (Or.inr (Or.inr (q))))
    have n28 : ¬ (x.2.2.1 6 x.1.toNatClampNeg) = (50 : Int32) := (fun q => c11 (Or.inl q))
    have n29 : ¬ (x.2.2.1 6 x.1.toNatClampNeg) = (51 : Int32) := (fun q => c11 (Or.inr (q)))
    refine q_tabOut (M := mX4_lineFault) (pc := 29) (x := (x.2.2.1 6 x.1.toNatClampNeg)) 122 (by have := lv_neT (a := 46) c2 (by decide); have := lv_neT (a := 47) c6 (by decide); have := lv_neT (a := 48) n25 (by decide); have := lv_neT (a := 49) n26 (by decide); have := lv_neT (a := 53) n27 (by decide); have := lv_neT (a := 50) n28 (by decide); have := lv_neT (a := 51) n29 (by decide); have := lv_neT (a := 52) c15 (by decide); omega) (by decide) dX4_lineFault_29 ?_
    refine q_aload_n 1 rfl rfl dX4_lineFault_122 ?_
    refine q_aload_n 1 rfl rfl dX4_lineFault_123 ?_
    refine q_getR (q_sh78 w) (by decide) (by decide) rfl lfX4_18 dX4_lineFault_124 (r := 2) (q_wr78_0 w) ?_
    refine q_getRN (q_sh2 w) (by decide) (by decide) rfl lfX4_47 dX4_lineFault_127 (r := 6) (q_wr2_4 w) ?_
    refine q_iload_n 2 rfl rfl dX4_lineFault_130 ?_
    obtain ⟨hg19, h⟩ := q_guard h
    refine q_bald (q_sh6 w) (q_inb_in hg19) dX4_lineFault_131 ?_
    obtain ⟨r20, e21, h⟩ := q_bind h
    refine q_callV (ci := 4) (d := 7) (Mc := mX4_hasRoomFor) (kc := 0) (nc := 0) [.int (x.2.2.1 6 x.1.toNatClampNeg)] okX4_hasRoomFor (q_sh78 w) (by decide) rfl lmX4_166 inX4_hasRoomFor seX4_hasRoomFor rfl (Nat.le_of_ble_eq_true rfl) (Nat.le_of_ble_eq_true rfl) (Nat.le_refl _) (Nat.le_refl _) dX4_lineFault_132 (q_L.deep (by decide) (kX4_hasRoomFor (Q := fun r S' => r = some (.int (q_b r20)) ∧ S' = x.2) w hp (aN) e21 ⟨rfl, rfl⟩)) (q_kI ?_)
    refine q_if_ne 143 (by decide) dX4_lineFault_135 (fun c => ?_) (fun c => ?_)
    · have c := q_b_n.mp c; rw [q_if1 c] at h
      refine q_aload_n 1 rfl rfl dX4_lineFault_143 ?_
      refine q_iload_n 2 rfl rfl dX4_lineFault_144 ?_
      obtain ⟨r22, e23, h⟩ := q_bind h
      refine q_callV (ci := 4) (d := 7) (Mc := mX4_addsInstruction) (kc := 0) (nc := 0) [.int x.1] okX4_addsInstruction (q_sh78 w) (by decide) rfl lmX4_169 inX4_addsInstruction seX4_addsInstruction rfl (Nat.le_of_ble_eq_true rfl) (Nat.le_of_ble_eq_true rfl) (Nat.le_refl _) (Nat.le_refl _) dX4_lineFault_145 (q_L.deep (by decide) (kX4_addsInstruction (Q := fun r S' => r = some (.int (q_b r22.1)) ∧ S' = r22.2) w hp (aN) e23 ⟨rfl, rfl⟩)) (q_kI ?_)
      have fx24 : q_Fx x.2 r22.2 := q_Fx.tr (q_Fx.rf x.2) (fxX4_addsInstruction e23)
      refine q_if_ne 155 (by decide) dX4_lineFault_148 (fun c => ?_) (fun c => ?_)
      · have c := q_b_n.mp c; rw [q_if1 c] at h
        obtain rfl := Option.some.inj h
        refine q_sub [1, 2, 0] rfl ?_
        exact K1
      · have c := q_b_0.mp c; rw [q_if0 c] at h
        refine q_iload_n 2 rfl rfl dX4_lineFault_151 ?_
        refine q_iconst (v := (1 : Int32)) (by decide) dX4_lineFault_152 ?_
        refine q_iadd dX4_lineFault_153 ?_
        refine q_istore_n [(2, .int (x.1 + (1 : Int32))), (0, .ref 78), (1, .int x.1)] rfl (by decide) rfl dX4_lineFault_154 ?_
        obtain rfl := Option.some.inj h
        refine q_sub [1, 2, 0] rfl ?_
        exact K1
    · have c := q_b_0.mp c; rw [q_if0 c] at h
      refine q_iload_n 2 rfl rfl dX4_lineFault_138 ?_
      refine q_istore_n [(2, .int x.1), (0, .ref 78), (1, .int x.1)] rfl (by decide) rfl dX4_lineFault_139 ?_
      refine q_goto 155 (by decide) dX4_lineFault_140 ?_
      obtain rfl := Option.some.inj h
      refine q_sub [1, 2, 0] rfl ?_
      exact K1
theorem lX4_lineFault_7 {g : QG} {Q : Option Value → QS → Prop} {p : Nat}  {r : Int32 × QS} (hp : q_pok p) (hQ : Q (some (.int r.1)) r.2) : ∀ (c : Nat) (x : Int32 × QS), q_Wire x.2 → q_aN x.2 p → q_it (tX4_lineFault_7 p) c x = some r → q_L g mX4_lineFault 8 0 0 Q 0 0 7 [(0, .ref 78), (1, .int x.1)] [] x.2 := by
  intro c
  induction c with
  | zero => intro x w aN h; cases h
  | succ c ih =>
    intro x w aN h
    simp only [q_it] at h
    cases hz : tX4_lineFault_7 p x with
    | none => rw [hz] at h; cases h
    | some z =>
      rw [hz] at h
      refine sX4_lineFault_7 w hp aN hz ?_
      rcases z with z | y
      · cases h; exact hQ
      · have fz := fxtX4_lineFault_7 hz; exact ih y (w.fx fz) (aN.fx fz) h
theorem kX4_lineFault_7 {S : QS} {g : QG} {Q : Option Value → QS → Prop} {p : Nat} {y1 : Int32} {r : Int32 × QS} (w : q_Wire S) (hp : q_pok p) (aN : q_aN S p) (h : fX4_lineFault_7 S p y1 = some r) (hQ : Q (some (.int r.1)) r.2) : q_L g mX4_lineFault 8 0 0 Q 0 0 7 [(0, .ref 78), (1, .int y1)] [] S := by
  obtain ⟨c, hc⟩ := q_run_it h
  exact lX4_lineFault_7 hp hQ c (y1, S) w aN hc
set_option maxRecDepth 20000 in
theorem kX4_lineFault {S : QS} {g : QG} {Q : Option Value → QS → Prop} {p : Nat}  {r : Int32 × QS} (w : q_Wire S) (hp : q_pok p) (aN : q_aN S p) (h : fX4_lineFault S p = some r) (hQ : Q (some (.int r.1)) r.2) : q_M g mX4_lineFault 8 0 0 [.ref 78] S Q := by
  unfold fX4_lineFault at h
  show q_L g mX4_lineFault 8 0 0 Q 0 0 0 [(0, .ref 78)] [] S
  refine q_aload_n 0 rfl rfl dX4_lineFault_0 ?_
  refine q_iconst (v := (-1 : Int32)) (by decide) dX4_lineFault_1 ?_
  refine q_putI (q_sh78 w) (by decide) (by decide) rfl rfl ⟨rfl, rfl⟩ lfX4_150 dX4_lineFault_2 ?_
  obtain ⟨S32, e33, h⟩ := q_bindS h
  refine q_st e33 ?_
  have fx34 : q_Fx S S32 := e33 ▸ q_Fx.sI (q_Fx.rf S)
  refine q_iconst (v := (0 : Int32)) (by decide) dX4_lineFault_5 ?_
  refine q_istore_n [(1, .int (0 : Int32)), (0, .ref 78)] rfl (by decide) rfl dX4_lineFault_6 ?_
  refine q_sub [1, 0] rfl ?_
  exact kX4_lineFault_7 (w.fx fx34) hp (aN.fx fx34) h hQ
set_option maxRecDepth 20000 in
theorem sX4_mainFault_2 {g : QG} {Q : Option Value → QS → Prop} {p : Nat}  {x : Int32 × QS} {z : (Int32 × QS) ⊕ (Int32 × QS)} (w : q_Wire x.2) (hp : q_pok p) (aN : q_aN x.2 p) (h : tX4_mainFault_2 p x = some z) (hQ : (Sum.elim (fun r0 : Int32 × QS => Q (some (.int r0.1)) r0.2) (fun y : Int32 × QS => q_L g mX4_mainFault 6 0 0 Q 0 0 2 [(0, .ref 78), (1, .int y.1)] [] y.2) z)) : q_L g mX4_mainFault 6 0 0 Q 0 0 2 [(0, .ref 78), (1, .int x.1)] [] x.2 := by
  unfold tX4_mainFault_2 at h
  refine q_iload_n 1 rfl rfl dX4_mainFault_2 ?_
  refine q_aload_n 0 rfl rfl dX4_mainFault_3 ?_
  refine q_getR (q_sh78 w) (by decide) (by decide) rfl lfX4_22 dX4_mainFault_4 (r := p) (aN).1 ?_
  refine q_getIN (q_shP0 w hp) (by decide) (by decide) rfl lfX4_98 dX4_mainFault_7 ?_
  refine q_icmp_ge 129 (by decide) dX4_mainFault_10 (fun c => ?_) (fun c => ?_)
  · rw [if_pos c] at h
    refine q_aload_n 0 rfl rfl dX4_mainFault_129 ?_
    refine q_getR (q_sh78 w) (by decide) (by decide) rfl lfX4_18 dX4_mainFault_130 (r := 2) (q_wr78_0 w) ?_
    refine q_getIN (q_sh2 w) (by decide) (by decide) rfl lfX4_41 dX4_mainFault_133 ?_
    cases h
    exact q_iret rfl rfl dX4_mainFault_136 hQ
  · rw [if_neg c] at h
    refine q_aload_n 0 rfl rfl dX4_mainFault_13 ?_
    refine q_getR (q_sh78 w) (by decide) (by decide) rfl lfX4_22 dX4_mainFault_14 (r := p) (aN).1 ?_
    refine q_getRN (q_shP0 w hp) (by decide) (by decide) rfl lfX4_134 dX4_mainFault_17 (r := (p + 24)) (q_wrP0_5 w hp) ?_
    refine q_iload_n 1 rfl rfl dX4_mainFault_20 ?_
    obtain ⟨hg1, h⟩ := q_guard h
    refine q_zald (q_shP24 w hp) (q_inb_in hg1) dX4_mainFault_21 ?_
    obtain ⟨v4, hv, h⟩ := q_bind h
    have K1 : q_L g mX4_mainFault 6 0 0 Q 0 0 56 [(0, .ref 78), (1, .int x.1)] [.int (q_b v4)] x.2 := by
      refine q_istore_n [(2, .int (q_b v4)), (0, .ref 78), (1, .int x.1)] rfl (by decide) rfl dX4_mainFault_56 ?_
      refine q_aload_n 1 rfl rfl dX4_mainFault_57 ?_
      refine q_getR (q_sh78 w) (by decide) (by decide) rfl lfX4_32 dX4_mainFault_58 (r := (p + 1)) (aN).2.1 ?_
      refine q_getRN (q_shP1 w hp) (by decide) (by decide) rfl lfX4_246 dX4_mainFault_61 (r := (p + 2)) (q_wrP1_1 w hp) ?_
      refine q_aload_n 1 rfl rfl dX4_mainFault_64 ?_
      refine q_getR (q_sh78 w) (by decide) (by decide) rfl lfX4_22 dX4_mainFault_65 (r := p) (aN).1 ?_
      refine q_getRN (q_shP0 w hp) (by decide) (by decide) rfl lfX4_138 dX4_mainFault_68 (r := (p + 23)) (q_wrP0_4 w hp) ?_
      refine q_iload_n 2 rfl rfl dX4_mainFault_71 ?_
      obtain ⟨hg5, h⟩ := q_guard h
      refine q_iald (q_shP23 w hp) (q_inb_in hg5) dX4_mainFault_72 ?_
      obtain ⟨hg6, h⟩ := q_guard h
      refine q_iald (q_shP2 w hp) (q_inb_in hg6) dX4_mainFault_73 ?_
      refine q_istore_n [(3, .int (x.2.2.1 (p + 2) (x.2.2.1 (p + 23) x.1.toNatClampNeg).toNatClampNeg)), (2, .int (q_b v4)), (0, .ref 78), (1, .int x.1)] rfl (by decide) rfl dX4_mainFault_74 ?_
      refine q_iload_n 1 rfl rfl dX4_mainFault_75 ?_
      refine q_if_eq 123 (by decide) dX4_mainFault_76 (fun c => ?_) (fun c => ?_)
      · have c := q_b_0.mp c; rw [q_if0 c] at h
        refine q_iinc (v := (x.1 + (1 : Int32))) 3 [(1, .int (x.1 + (1 : Int32))), (3, .int (x.2.2.1 (p + 2) (x.2.2.1 (p + 23) x.1.toNatClampNeg).toNatClampNeg)), (2, .int (q_b v4)), (0, .ref 78)] (by decide) rfl (congrArg (fun t => x.1 + t) (by decide)) rfl dX4_mainFault_123 ?_
        refine q_goto 2 (by decide) dX4_mainFault_126 ?_
        refine q_sub [3, 0] rfl ?_
        cases h
        exact hQ
      · have c := q_b_n.mp c; rw [q_if1 c] at h
        refine q_aload_n 2 rfl rfl dX4_mainFault_79 ?_
        refine q_getR (q_sh78 w) (by decide) (by decide) rfl lfX4_18 dX4_mainFault_80 (r := 2) (q_wr78_0 w) ?_
        refine q_aload_n 2 rfl rfl dX4_mainFault_83 ?_
        refine q_getR (q_sh78 w) (by decide) (by decide) rfl lfX4_22 dX4_mainFault_84 (r := p) (aN).1 ?_
        refine q_getRN (q_shP0 w hp) (by decide) (by decide) rfl lfX4_141 dX4_mainFault_87 (r := (p + 22)) (q_wrP0_3 w hp) ?_
        refine q_iload_n 3 rfl rfl dX4_mainFault_90 ?_
        obtain ⟨hg7, h⟩ := q_guard h
        refine q_iald (q_shP22 w hp) (q_inb_in hg7) dX4_mainFault_91 ?_
        refine q_ldcS (j := 27) (r := 1000054) rfl rfl dX4_mainFault_92 ?_
        obtain ⟨r8, e9, h⟩ := q_bind h
        refine q_callV (ci := 8) (d := 5) (Mc := mX8_isWord) (kc := 0) (nc := 0) [.int (x.2.2.1 (p + 22) x.1.toNatClampNeg), .ref 1000054] okX8_isWord (q_sh2 w) (by decide) rfl lmX4_118 inX8_isWord seX8_isWord rfl (Nat.le_of_ble_eq_true rfl) (Nat.le_of_ble_eq_true rfl) (Nat.le_refl _) (Nat.le_refl _) dX4_mainFault_94 (q_L.deep (by decide) (kX8_isWord (Q := fun r S' => r = some (.int (q_b r8)) ∧ S' = x.2) w e9 ⟨rfl, rfl⟩)) (q_kI ?_)
        refine q_if_eq 123 (by decide) dX4_mainFault_97 (fun c => ?_) (fun c => ?_)
        · have c := q_b_0.mp c; rw [q_if0 c] at h
          refine q_iinc (v := (x.1 + (1 : Int32))) 3 [(1, .int (x.1 + (1 : Int32))), (3, .int (x.2.2.1 (p + 2) (x.2.2.1 (p + 23) x.1.toNatClampNeg).toNatClampNeg)), (2, .int (q_b v4)), (0, .ref 78)] (by decide) rfl (congrArg (fun t => x.1 + t) (by decide)) rfl dX4_mainFault_123 ?_
          refine q_goto 2 (by decide) dX4_mainFault_126 ?_
          refine q_sub [3, 0] rfl ?_
          cases h
          exact hQ
        · have c := q_b_n.mp c; rw [q_if1 c] at h
          refine q_aload_n 2 rfl rfl dX4_mainFault_100 ?_
          refine q_getR (q_sh78 w) (by decide) (by decide) rfl lfX4_18 dX4_mainFault_101 (r := 2) (q_wr78_0 w) ?_
          refine q_iload_n 0 rfl rfl dX4_mainFault_104 ?_
          refine q_ldcS (j := 28) (r := 1000056) rfl rfl dX4_mainFault_105 ?_
          obtain ⟨r10, e11, h⟩ := q_bind h
          refine q_callV (ci := 8) (d := 5) (Mc := mX8_isWord) (kc := 0) (nc := 0) [.int (x.2.2.1 (p + 2) (x.2.2.1 (p + 23) x.1.toNatClampNeg).toNatClampNeg), .ref 1000056] okX8_isWord (q_sh2 w) (by decide) rfl lmX4_118 inX8_isWord seX8_isWord rfl (Nat.le_of_ble_eq_true rfl) (Nat.le_of_ble_eq_true rfl) (Nat.le_refl _) (Nat.le_refl _) dX4_mainFault_107 (q_L.deep (by decide) (kX8_isWord (Q := fun r S' => r = some (.int (q_b r10)) ∧ S' = x.2) w e11 ⟨rfl, rfl⟩)) (q_kI ?_)
          refine q_if_eq 123 (by decide) dX4_mainFault_110 (fun c => ?_) (fun c => ?_)
          · have c := q_b_0.mp c; rw [q_if0 c] at h
            refine q_iinc (v := (x.1 + (1 : Int32))) 3 [(1, .int (x.1 + (1 : Int32))), (3, .int (x.2.2.1 (p + 2) (x.2.2.1 (p + 23) x.1.toNatClampNeg).toNatClampNeg)), (2, .int (q_b v4)), (0, .ref 78)] (by decide) rfl (congrArg (fun t => x.1 + t) (by decide)) rfl dX4_mainFault_123 ?_
            refine q_goto 2 (by decide) dX4_mainFault_126 ?_
            refine q_sub [3, 0] rfl ?_
            cases h
            exact hQ
          · have c := q_b_n.mp c; rw [q_if1 c] at h
            refine q_aload_n 2 rfl rfl dX4_mainFault_113 ?_
            refine q_getR (q_sh78 w) (by decide) (by decide) rfl lfX4_22 dX4_mainFault_114 (r := p) (aN).1 ?_
            refine q_iload_n 3 rfl rfl dX4_mainFault_117 ?_
            refine q_putIN (q_shP0 w hp) (by decide) (by decide) rfl rfl ⟨rfl, rfl⟩ lfX4_253 dX4_mainFault_118 ?_
            obtain ⟨S12, e13, h⟩ := q_bindS h
            refine q_st e13 ?_
            have fx14 : q_Fx x.2 S12 := e13 ▸ q_Fx.sI (q_Fx.rf x.2)
            refine q_iconst (v := (-1 : Int32)) (by decide) dX4_mainFault_121 ?_
            cases h
            exact q_iret rfl rfl dX4_mainFault_122 hQ
    replace h := hv
    refine q_if_ne 55 (by decide) dX4_mainFault_22 (fun c => ?_) (fun c => ?_)
    · rw [if_neg c] at h
      refine q_iconst (v := (0 : Int32)) (by decide) dX4_mainFault_55 ?_
      obtain rfl := Option.some.inj h
      refine q_sub [0, 1] rfl ?_
      exact K1
    · rw [if_pos c] at h
      refine q_aload_n 0 rfl rfl dX4_mainFault_25 ?_
      refine q_getR (q_sh78 w) (by decide) (by decide) rfl lfX4_22 dX4_mainFault_26 (r := p) (aN).1 ?_
      refine q_getRN (q_shP0 w hp) (by decide) (by decide) rfl lfX4_125 dX4_mainFault_29 (r := (p + 25)) (q_wrP0_6 w hp) ?_
      refine q_iload_n 1 rfl rfl dX4_mainFault_32 ?_
      obtain ⟨hg2, h⟩ := q_guard h
      refine q_iald (q_shP25 w hp) (q_inb_in hg2) dX4_mainFault_33 ?_
      refine q_if_ne 55 (by decide) dX4_mainFault_34 (fun c => ?_) (fun c => ?_)
      · rw [if_neg c] at h
        refine q_iconst (v := (0 : Int32)) (by decide) dX4_mainFault_55 ?_
        obtain rfl := Option.some.inj h
        refine q_sub [0, 1] rfl ?_
        exact K1
      · rw [if_pos c] at h
        refine q_aload_n 0 rfl rfl dX4_mainFault_37 ?_
        refine q_getR (q_sh78 w) (by decide) (by decide) rfl lfX4_22 dX4_mainFault_38 (r := p) (aN).1 ?_
        refine q_getRN (q_shP0 w hp) (by decide) (by decide) rfl lfX4_128 dX4_mainFault_41 (r := (p + 27)) (q_wrP0_8 w hp) ?_
        refine q_iload_n 1 rfl rfl dX4_mainFault_44 ?_
        obtain ⟨hg3, h⟩ := q_guard h
        refine q_iald (q_shP27 w hp) (q_inb_in hg3) dX4_mainFault_45 ?_
        refine q_bipush (v := (68 : Int32)) (by decide) dX4_mainFault_46 ?_
        refine q_icmp_ne 55 (by decide) dX4_mainFault_48 (fun c => ?_) (fun c => ?_)
        · rw [if_neg c] at h
          refine q_iconst (v := (0 : Int32)) (by decide) dX4_mainFault_55 ?_
          obtain rfl := Option.some.inj h
          refine q_sub [0, 1] rfl ?_
          exact K1
        · rw [if_pos c] at h
          refine q_iconst (v := (1 : Int32)) (by decide) dX4_mainFault_51 ?_
          refine q_goto 56 (by decide) dX4_mainFault_52 ?_
          obtain rfl := Option.some.inj h
          refine q_sub [0, 1] rfl ?_
          exact K1
theorem lX4_mainFault_2 {g : QG} {Q : Option Value → QS → Prop} {p : Nat}  {r : Int32 × QS} (hp : q_pok p) (hQ : Q (some (.int r.1)) r.2) : ∀ (c : Nat) (x : Int32 × QS), q_Wire x.2 → q_aN x.2 p → q_it (tX4_mainFault_2 p) c x = some r → q_L g mX4_mainFault 6 0 0 Q 0 0 2 [(0, .ref 78), (1, .int x.1)] [] x.2 := by
  intro c
  induction c with
  | zero => intro x w aN h; cases h
  | succ c ih =>
    intro x w aN h
    simp only [q_it] at h
    cases hz : tX4_mainFault_2 p x with
    | none => rw [hz] at h; cases h
    | some z =>
      rw [hz] at h
      refine sX4_mainFault_2 w hp aN hz ?_
      rcases z with z | y
      · cases h; exact hQ
      · have fz := fxtX4_mainFault_2 hz; exact ih y (w.fx fz) (aN.fx fz) h
theorem kX4_mainFault_2 {S : QS} {g : QG} {Q : Option Value → QS → Prop} {p : Nat} {y1 : Int32} {r : Int32 × QS} (w : q_Wire S) (hp : q_pok p) (aN : q_aN S p) (h : fX4_mainFault_2 S p y1 = some r) (hQ : Q (some (.int r.1)) r.2) : q_L g mX4_mainFault 6 0 0 Q 0 0 2 [(0, .ref 78), (1, .int y1)] [] S := by
  obtain ⟨c, hc⟩ := q_run_it h
  exact lX4_mainFault_2 hp hQ c (y1, S) w aN hc
set_option maxRecDepth 20000 in
theorem kX4_mainFault {S : QS} {g : QG} {Q : Option Value → QS → Prop} {p : Nat}  {r : Int32 × QS} (w : q_Wire S) (hp : q_pok p) (aN : q_aN S p) (h : fX4_mainFault S p = some r) (hQ : Q (some (.int r.1)) r.2) : q_M g mX4_mainFault 6 0 0 [.ref 78] S Q := by
  unfold fX4_mainFault at h
  show q_L g mX4_mainFault 6 0 0 Q 0 0 0 [(0, .ref 78)] [] S
  refine q_iconst (v := (0 : Int32)) (by decide) dX4_mainFault_0 ?_
  refine q_istore_n [(1, .int (0 : Int32)), (0, .ref 78)] rfl (by decide) rfl dX4_mainFault_1 ?_
  refine q_sub [1, 0] rfl ?_
  exact kX4_mainFault_2 w hp (aN) h hQ
