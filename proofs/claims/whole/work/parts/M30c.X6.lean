set_option maxRecDepth 20000 in
theorem kX6_transfer {S : QS} {g : QG} {Q : Option Value → QS → Prop} {p : Nat} {x1 : Int32} {r : QS} (w : q_Wire S) (hp : q_pok p) (aR : q_aR S p) (h : fX6_transfer S p x1 = some r) (hQ : Q none r) : q_M g mX6_transfer 5 0 0 [.ref 89, .int x1] S Q := by
  unfold fX6_transfer at h
  show q_L g mX6_transfer 5 0 0 Q 0 0 0 [(0, .ref 89), (1, .int x1)] [] S
  refine q_aload_n 0 rfl rfl dX6_transfer_0 ?_
  refine q_getR (q_sh89 w) (by decide) (by decide) rfl lfX6_55 dX6_transfer_1 (r := (p + 10)) (aR).2 ?_
  refine q_getRN (q_shP10 w hp) (by decide) (by decide) rfl lfX6_110 dX6_transfer_4 (r := (p + 12)) (q_wrP10_2 w hp) ?_
  refine q_iload_n 1 rfl rfl dX6_transfer_7 ?_
  obtain ⟨hg1, h⟩ := q_guard h
  refine q_iald (q_shP12 w hp) (q_inb_in hg1) dX6_transfer_8 ?_
  refine q_istore_n [(2, .int (S.2.1 (p + 12) x1.toNatClampNeg)), (0, .ref 89), (1, .int x1)] rfl (by decide) rfl dX6_transfer_9 ?_
  refine q_aload_n 1 rfl rfl dX6_transfer_10 ?_
  refine q_getR (q_sh89 w) (by decide) (by decide) rfl lfX6_55 dX6_transfer_11 (r := (p + 10)) (aR).2 ?_
  refine q_getRN (q_shP10 w hp) (by decide) (by decide) rfl lfX6_105 dX6_transfer_14 (r := (p + 11)) (q_wrP10_1 w hp) ?_
  refine q_iload_n 2 rfl rfl dX6_transfer_17 ?_
  obtain ⟨hg2, h⟩ := q_guard h
  refine q_iald (q_shP11 w hp) (q_inb_in hg2) dX6_transfer_18 ?_
  by_cases c3 : (S.2.1 (p + 11) x1.toNatClampNeg) = (39 : Int32)
  · rw [if_pos c3] at h
    refine q_tabIn (M := mX6_transfer) (pc := 19) (x := (S.2.1 (p + 11) x1.toNatClampNeg)) 60 (by rw [c3]; decide) (by rw [c3]; decide) (by rw [c3]; rfl) (by decide) dX6_transfer_19 ?_
    refine q_aload_n 1 rfl rfl dX6_transfer_60 ?_
    refine q_iload_n 0 rfl rfl dX6_transfer_61 ?_
    refine q_aload_n 1 rfl rfl dX6_transfer_62 ?_
    refine q_getR (q_sh89 w) (by decide) (by decide) rfl lfX6_45 dX6_transfer_63 (r := p) (aR).1 ?_
    refine q_getRN (q_shP0 w hp) (by decide) (by decide) rfl lfX6_226 dX6_transfer_66 (r := (p + 25)) (q_wrP0_6 w hp) ?_
    refine q_iload_n 0 rfl rfl dX6_transfer_69 ?_
    obtain ⟨hg4, h⟩ := q_guard h
    refine q_iald (q_shP25 w hp) (q_inb_in hg4) dX6_transfer_70 ?_
    obtain ⟨r5, e6, h⟩ := q_bind h
    refine q_callV (ci := 6) (d := 4) (Mc := mX6_enter) (kc := 0) (nc := 0) [.int (S.2.1 (p + 12) x1.toNatClampNeg), .int (S.2.1 (p + 25) (S.2.1 (p + 12) x1.toNatClampNeg).toNatClampNeg)] okX6_enter (q_sh89 w) (by decide) rfl lmX6_229 inX6_enter seX6_enter rfl (Nat.le_of_ble_eq_true rfl) (Nat.le_of_ble_eq_true rfl) (Nat.le_refl _) (Nat.le_refl _) dX6_transfer_71 (q_L.deep (by decide) (kX6_enter (Q := fun r S' => r = none ∧ S' = r5) w hp (aR) e6 ⟨rfl, rfl⟩)) (q_kV ?_)
    have fx7 : q_Fx S r5 := q_Fx.tr (q_Fx.rf S) (fxX6_enter e6)
    refine q_goto 190 (by decide) dX6_transfer_74 ?_
    obtain rfl := Option.some.inj h
    exact q_vret rfl dX6_transfer_190 hQ
  rw [if_neg c3] at h
  by_cases c8 : (S.2.1 (p + 11) x1.toNatClampNeg) = (40 : Int32)
  · rw [if_pos c8] at h
    refine q_tabIn (M := mX6_transfer) (pc := 19) (x := (S.2.1 (p + 11) x1.toNatClampNeg)) 77 (by rw [c8]; decide) (by rw [c8]; decide) (by rw [c8]; rfl) (by decide) dX6_transfer_19 ?_
    refine q_aload_n 1 rfl rfl dX6_transfer_77 ?_
    refine q_iload_n 0 rfl rfl dX6_transfer_78 ?_
    refine q_aload_n 1 rfl rfl dX6_transfer_79 ?_
    refine q_getR (q_sh89 w) (by decide) (by decide) rfl lfX6_18 dX6_transfer_80 (r := 96) (q_wr89_3 w) ?_
    refine q_aload_n 1 rfl rfl dX6_transfer_83 ?_
    obtain ⟨r9, e10, h⟩ := q_bind h
    refine q_callV (ci := 6) (d := 4) (Mc := mX6_top) (kc := 0) (nc := 0) [] okX6_top (q_sh89 w) (by decide) rfl lmX6_138 inX6_top seX6_top rfl (Nat.le_of_ble_eq_true rfl) (Nat.le_of_ble_eq_true rfl) (Nat.le_refl _) (Nat.le_refl _) dX6_transfer_84 (q_L.deep (by decide) (kX6_top (Q := fun r S' => r = some (.int r9) ∧ S' = S) w e10 ⟨rfl, rfl⟩)) (q_kI ?_)
    refine q_aload_n 1 rfl rfl dX6_transfer_87 ?_
    refine q_getR (q_sh89 w) (by decide) (by decide) rfl lfX6_45 dX6_transfer_88 (r := p) (aR).1 ?_
    refine q_getRN (q_shP0 w hp) (by decide) (by decide) rfl lfX6_226 dX6_transfer_91 (r := (p + 25)) (q_wrP0_6 w hp) ?_
    refine q_iload_n 0 rfl rfl dX6_transfer_94 ?_
    obtain ⟨hg11, h⟩ := q_guard h
    refine q_iald (q_shP25 w hp) (q_inb_in hg11) dX6_transfer_95 ?_
    refine q_isub dX6_transfer_96 ?_
    obtain ⟨hg12, h⟩ := q_guard h
    refine q_iald (q_sh96 w) (q_inb_in hg12) dX6_transfer_97 ?_
    obtain ⟨r13, e14, h⟩ := q_bind h
    refine q_callV (ci := 6) (d := 4) (Mc := mX6_send) (kc := 0) (nc := 0) [.int (S.2.1 (p + 12) x1.toNatClampNeg), .int (S.2.1 96 (r9 - (S.2.1 (p + 25) (S.2.1 (p + 12) x1.toNatClampNeg).toNatClampNeg)).toNatClampNeg)] okX6_send (q_sh89 w) (by decide) rfl lmX6_232 inX6_send seX6_send rfl (Nat.le_of_ble_eq_true rfl) (Nat.le_of_ble_eq_true rfl) (Nat.le_refl _) (Nat.le_refl _) dX6_transfer_98 (q_L.deep (by decide) (kX6_send (Q := fun r S' => r = none ∧ S' = r13) w hp (aR) e14 ⟨rfl, rfl⟩)) (q_kV ?_)
    have fx15 : q_Fx S r13 := q_Fx.tr (q_Fx.rf S) (fxX6_send e14)
    refine q_goto 190 (by decide) dX6_transfer_101 ?_
    obtain rfl := Option.some.inj h
    exact q_vret rfl dX6_transfer_190 hQ
  rw [if_neg c8] at h
  by_cases c16 : (S.2.1 (p + 11) x1.toNatClampNeg) = (41 : Int32)
  · rw [if_pos c16] at h
    refine q_tabIn (M := mX6_transfer) (pc := 19) (x := (S.2.1 (p + 11) x1.toNatClampNeg)) 104 (by rw [c16]; decide) (by rw [c16]; decide) (by rw [c16]; rfl) (by decide) dX6_transfer_19 ?_
    refine q_aload_n 1 rfl rfl dX6_transfer_104 ?_
    refine q_aload_n 1 rfl rfl dX6_transfer_105 ?_
    obtain ⟨r17, e18, h⟩ := q_bind h
    refine q_callV (ci := 6) (d := 4) (Mc := mX6_pop) (kc := 0) (nc := 0) [] okX6_pop (q_sh89 w) (by decide) rfl lmX6_172 inX6_pop seX6_pop rfl (Nat.le_of_ble_eq_true rfl) (Nat.le_of_ble_eq_true rfl) (Nat.le_refl _) (Nat.le_refl _) dX6_transfer_106 (q_L.deep (by decide) (kX6_pop (Q := fun r S' => r = some (.int r17.1) ∧ S' = r17.2) w e18 ⟨rfl, rfl⟩)) (q_kI ?_)
    have fx19 : q_Fx S r17.2 := q_Fx.tr (q_Fx.rf S) (fxX6_pop e18)
    obtain ⟨r20, e21, h⟩ := q_bind h
    refine q_callV (ci := 6) (d := 4) (Mc := mX6_raiseObject) (kc := 0) (nc := 0) [.int r17.1] okX6_raiseObject (q_sh89 (w.fx fx19)) (by decide) rfl lmX6_235 inX6_raiseObject seX6_raiseObject rfl (Nat.le_of_ble_eq_true rfl) (Nat.le_of_ble_eq_true rfl) (Nat.le_refl _) (Nat.le_refl _) dX6_transfer_109 (q_L.deep (by decide) (kX6_raiseObject (Q := fun r S' => r = none ∧ S' = r20) (w.fx fx19) e21 ⟨rfl, rfl⟩)) (q_kV ?_)
    have fx22 : q_Fx S r20 := q_Fx.tr (fx19) (fxX6_raiseObject e21)
    refine q_goto 190 (by decide) dX6_transfer_112 ?_
    obtain rfl := Option.some.inj h
    exact q_vret rfl dX6_transfer_190 hQ
  rw [if_neg c16] at h
  by_cases c23 : (S.2.1 (p + 11) x1.toNatClampNeg) = (44 : Int32)
  · rw [if_pos c23] at h
    refine q_tabIn (M := mX6_transfer) (pc := 19) (x := (S.2.1 (p + 11) x1.toNatClampNeg)) 115 (by rw [c23]; decide) (by rw [c23]; decide) (by rw [c23]; rfl) (by decide) dX6_transfer_19 ?_
    refine q_aload_n 1 rfl rfl dX6_transfer_115 ?_
    refine q_aload_n 1 rfl rfl dX6_transfer_116 ?_
    refine q_getI (q_sh89 w) (by decide) (by decide) rfl lfX6_62 dX6_transfer_117 ?_
    refine q_aload_n 1 rfl rfl dX6_transfer_120 ?_
    refine q_getI (q_sh89 w) (by decide) (by decide) rfl lfX6_56 dX6_transfer_121 ?_
    obtain ⟨v25, hv, h⟩ := q_bind h
    have K1 : q_L g mX6_transfer 5 0 0 Q 0 0 140 [(0, .ref 89)] [.int v25, .ref 89] S := by
      obtain ⟨r26, e27, h⟩ := q_bind h
      refine q_callV (ci := 6) (d := 4) (Mc := mX6_pushInt) (kc := 0) (nc := 0) [.int v25] okX6_pushInt (q_sh89 w) (by decide) rfl lmX6_166 inX6_pushInt seX6_pushInt rfl (Nat.le_of_ble_eq_true rfl) (Nat.le_of_ble_eq_true rfl) (Nat.le_refl _) (Nat.le_refl _) dX6_transfer_140 (q_L.deep (by decide) (kX6_pushInt (Q := fun r S' => r = none ∧ S' = r26) w e27 ⟨rfl, rfl⟩)) (q_kV ?_)
      have fx28 : q_Fx S r26 := q_Fx.tr (q_Fx.rf S) (fxX6_pushInt e27)
      refine q_aload_n 0 rfl rfl dX6_transfer_143 ?_
      refine q_dup rfl dX6_transfer_144 ?_
      refine q_getI (q_sh89 (w.fx fx28)) (by decide) (by decide) rfl lfX6_62 dX6_transfer_145 ?_
      refine q_iconst (v := (1 : Int32)) (by decide) dX6_transfer_148 ?_
      refine q_iadd dX6_transfer_149 ?_
      refine q_putI (q_sh89 (w.fx fx28)) (by decide) (by decide) rfl rfl ⟨rfl, rfl⟩ lfX6_62 dX6_transfer_150 ?_
      obtain ⟨S29, e30, h⟩ := q_bindS h
      refine q_st e30 ?_
      have fx31 : q_Fx S S29 := e30 ▸ q_Fx.sI (fx28)
      refine q_goto 190 (by decide) dX6_transfer_153 ?_
      obtain rfl := Option.some.inj h
      exact q_vret rfl dX6_transfer_190 hQ
    replace h := hv
    refine q_icmp_ge 139 (by decide) dX6_transfer_124 (fun c => ?_) (fun c => ?_)
    · rw [if_pos c] at h
      refine q_iconst (v := (0 : Int32)) (by decide) dX6_transfer_139 ?_
      obtain rfl := Option.some.inj h
      refine q_sub [1] rfl ?_
      exact K1
    · rw [if_neg c] at h
      refine q_aload_n 1 rfl rfl dX6_transfer_127 ?_
      refine q_getR (q_sh89 w) (by decide) (by decide) rfl lfX6_32 dX6_transfer_128 (r := 100) (q_wr89_10 w) ?_
      refine q_aload_n 1 rfl rfl dX6_transfer_131 ?_
      refine q_getI (q_sh89 w) (by decide) (by decide) rfl lfX6_62 dX6_transfer_132 ?_
      obtain ⟨hg24, h⟩ := q_guard h
      refine q_iald (q_sh100 w) (q_inb_in hg24) dX6_transfer_135 ?_
      refine q_goto 140 (by decide) dX6_transfer_136 ?_
      obtain rfl := Option.some.inj h
      refine q_sub [1] rfl ?_
      exact K1
  rw [if_neg c23] at h
  by_cases c32 : (S.2.1 (p + 11) x1.toNatClampNeg) = (45 : Int32)
  · rw [if_pos c32] at h
    refine q_tabIn (M := mX6_transfer) (pc := 19) (x := (S.2.1 (p + 11) x1.toNatClampNeg)) 156 (by rw [c32]; decide) (by rw [c32]; decide) (by rw [c32]; rfl) (by decide) dX6_transfer_19 ?_
    refine q_aload_n 1 rfl rfl dX6_transfer_156 ?_
    refine q_aload_n 1 rfl rfl dX6_transfer_157 ?_
    obtain ⟨r33, e34, h⟩ := q_bind h
    refine q_callV (ci := 6) (d := 4) (Mc := mX6_pop) (kc := 0) (nc := 0) [] okX6_pop (q_sh89 w) (by decide) rfl lmX6_172 inX6_pop seX6_pop rfl (Nat.le_of_ble_eq_true rfl) (Nat.le_of_ble_eq_true rfl) (Nat.le_refl _) (Nat.le_refl _) dX6_transfer_158 (q_L.deep (by decide) (kX6_pop (Q := fun r S' => r = some (.int r33.1) ∧ S' = r33.2) w e34 ⟨rfl, rfl⟩)) (q_kI ?_)
    have fx35 : q_Fx S r33.2 := q_Fx.tr (q_Fx.rf S) (fxX6_pop e34)
    obtain ⟨r36, e37, h⟩ := q_bind h
    refine q_callV (ci := 6) (d := 4) (Mc := mX6_write) (kc := 0) (nc := 0) [.int r33.1] okX6_write (q_sh89 (w.fx fx35)) (by decide) rfl lmX6_238 inX6_write seX6_write rfl (Nat.le_of_ble_eq_true rfl) (Nat.le_of_ble_eq_true rfl) (Nat.le_refl _) (Nat.le_refl _) dX6_transfer_161 (q_L.deep (by decide) (kX6_write (Q := fun r S' => r = none ∧ S' = r36) (w.fx fx35) e37 ⟨rfl, rfl⟩)) (q_kV ?_)
    have fx38 : q_Fx S r36 := q_Fx.tr (fx35) (fxX6_write e37)
    refine q_goto 190 (by decide) dX6_transfer_164 ?_
    obtain rfl := Option.some.inj h
    exact q_vret rfl dX6_transfer_190 hQ
  rw [if_neg c32] at h
  have K : ∀ (hK : True), q_L g mX6_transfer 5 0 0 Q 0 0 167 [(2, .int (S.2.1 (p + 12) x1.toNatClampNeg)), (0, .ref 89), (1, .int x1)] [] S := by
    intro _
    refine q_aload_n 1 rfl rfl dX6_transfer_167 ?_
    refine q_aload_n 1 rfl rfl dX6_transfer_168 ?_
    refine q_getR (q_sh89 w) (by decide) (by decide) rfl lfX6_55 dX6_transfer_169 (r := (p + 10)) (aR).2 ?_
    refine q_getRN (q_shP10 w hp) (by decide) (by decide) rfl lfX6_105 dX6_transfer_172 (r := (p + 11)) (q_wrP10_1 w hp) ?_
    refine q_iload_n 2 rfl rfl dX6_transfer_175 ?_
    obtain ⟨hg39, h⟩ := q_guard h
    refine q_iald (q_shP11 w hp) (q_inb_in hg39) dX6_transfer_176 ?_
    refine q_bipush (v := (42 : Int32)) (by decide) dX6_transfer_177 ?_
    refine q_icmp_ne 186 (by decide) dX6_transfer_179 (fun c => ?_) (fun c => ?_)
    · rw [if_neg c] at h
      refine q_iconst (v := (0 : Int32)) (by decide) dX6_transfer_186 ?_
      obtain ⟨r40, e41, h⟩ := q_bind h
      refine q_callV (ci := 6) (d := 4) (Mc := mX6_leave) (kc := 0) (nc := 0) [.int (0 : Int32)] okX6_leave (q_sh89 w) (by decide) rfl lmX6_241 inX6_leave seX6_leave rfl (Nat.le_of_ble_eq_true rfl) (Nat.le_of_ble_eq_true rfl) (Nat.le_refl _) (Nat.le_refl _) dX6_transfer_187 (q_L.deep (by decide) (kX6_leave (Q := fun r S' => r = none ∧ S' = r40) w e41 ⟨rfl, rfl⟩)) (q_kV ?_)
      have fx42 : q_Fx S r40 := q_Fx.tr (q_Fx.rf S) (fxX6_leave e41)
      obtain rfl := Option.some.inj h
      exact q_vret rfl dX6_transfer_190 hQ
    · rw [if_pos c] at h
      refine q_iconst (v := (1 : Int32)) (by decide) dX6_transfer_182 ?_
      refine q_goto 187 (by decide) dX6_transfer_183 ?_
      obtain ⟨r43, e44, h⟩ := q_bind h
      refine q_callV (ci := 6) (d := 4) (Mc := mX6_leave) (kc := 0) (nc := 0) [.int (1 : Int32)] okX6_leave (q_sh89 w) (by decide) rfl lmX6_241 inX6_leave seX6_leave rfl (Nat.le_of_ble_eq_true rfl) (Nat.le_of_ble_eq_true rfl) (Nat.le_refl _) (Nat.le_refl _) dX6_transfer_187 (q_L.deep (by decide) (kX6_leave (Q := fun r S' => r = none ∧ S' = r43) w e44 ⟨rfl, rfl⟩)) (q_kV ?_)
      have fx45 : q_Fx S r43 := q_Fx.tr (q_Fx.rf S) (fxX6_leave e44)
      obtain rfl := Option.some.inj h
      exact q_vret rfl dX6_transfer_190 hQ
  by_cases n46 : (S.2.1 (p + 11) x1.toNatClampNeg) = (42 : Int32)
  · exact q_tabIn (M := mX6_transfer) (pc := 19) (x := (S.2.1 (p + 11) x1.toNatClampNeg)) 167 (by rw [n46]; decide) (by rw [n46]; decide) (by rw [n46]; rfl) (by decide) dX6_transfer_19 (K trivial)
  by_cases n47 : (S.2.1 (p + 11) x1.toNatClampNeg) = (43 : Int32)
  · exact q_tabIn (M := mX6_transfer) (pc := 19) (x := (S.2.1 (p + 11) x1.toNatClampNeg)) 167 (by rw [n47]; decide) (by rw [n47]; decide) (by rw [n47]; rfl) (by decide) dX6_transfer_19 (K trivial)
  exact q_tabOut (M := mX6_transfer) (pc := 19) (x := (S.2.1 (p + 11) x1.toNatClampNeg)) 167 (by have := lv_neT (a := 39) c3 (by decide); have := lv_neT (a := 40) c8 (by decide); have := lv_neT (a := 41) c16 (by decide); have := lv_neT (a := 44) c23 (by decide); have := lv_neT (a := 45) c32 (by decide); have := lv_neT (a := 42) n46 (by decide); have := lv_neT (a := 43) n47 (by decide); omega) (by decide) dX6_transfer_19 (K trivial)
set_option maxRecDepth 20000 in
theorem kX6_step {S : QS} {g : QG} {Q : Option Value → QS → Prop} {p : Nat}  {r : QS} (w : q_Wire S) (hp : q_pok p) (aR : q_aR S p) (h : fX6_step S p = some r) (hQ : Q none r) : q_M g mX6_step 6 0 0 [.ref 89] S Q := by
  unfold fX6_step at h
  show q_L g mX6_step 6 0 0 Q 0 0 0 [(0, .ref 89)] [] S
  refine q_aload_n 0 rfl rfl dX6_step_0 ?_
  refine q_getR (q_sh89 w) (by decide) (by decide) rfl lfX6_26 dX6_step_1 (r := 98) (q_wr89_5 w) ?_
  refine q_aload_n 0 rfl rfl dX6_step_4 ?_
  refine q_getI (q_sh89 w) (by decide) (by decide) rfl lfX6_77 dX6_step_5 ?_
  obtain ⟨hg1, h⟩ := q_guard h
  refine q_iald (q_sh98 w) (q_inb_in hg1) dX6_step_8 ?_
  refine q_istore_n [(1, .int (S.2.1 98 (S.2.1 89 7).toNatClampNeg)), (0, .ref 89)] rfl (by decide) rfl dX6_step_9 ?_
  refine q_aload_n 1 rfl rfl dX6_step_10 ?_
  refine q_iload_n 0 rfl rfl dX6_step_11 ?_
  refine q_putI (q_sh89 w) (by decide) (by decide) rfl rfl ⟨rfl, rfl⟩ lfX6_38 dX6_step_12 ?_
  obtain ⟨S2, e3, h⟩ := q_bindS h
  refine q_st e3 ?_
  have fx4 : q_Fx S S2 := e3 ▸ q_Fx.sI (q_Fx.rf S)
  refine q_aload_n 1 rfl rfl dX6_step_15 ?_
  refine q_iload_n 0 rfl rfl dX6_step_16 ?_
  obtain ⟨r5, e6, h⟩ := q_bind h
  refine q_callV (ci := 6) (d := 5) (Mc := mX6_isStray) (kc := 0) (nc := 0) [.int (S.2.1 98 (S.2.1 89 7).toNatClampNeg)] okX6_isStray (q_sh89 (w.fx fx4)) (by decide) rfl lmX6_98 inX6_isStray seX6_isStray rfl (Nat.le_of_ble_eq_true rfl) (Nat.le_of_ble_eq_true rfl) (Nat.le_refl _) (Nat.le_refl _) dX6_step_17 (q_L.deep (by decide) (kX6_isStray (Q := fun r S' => r = some (.int (q_b r5)) ∧ S' = S2) (w.fx fx4) hp (aR.fx fx4) e6 ⟨rfl, rfl⟩)) (q_kI ?_)
  refine q_if_eq 34 (by decide) dX6_step_20 (fun c => ?_) (fun c => ?_)
  · have c := q_b_0.mp c; rw [q_if0 c] at h
    refine q_aload_n 1 rfl rfl dX6_step_34 ?_
    refine q_getR (q_sh89 (w.fx fx4)) (by decide) (by decide) rfl lfX6_26 dX6_step_35 (r := 98) (q_wr89_5 (w.fx fx4)) ?_
    refine q_aload_n 1 rfl rfl dX6_step_38 ?_
    refine q_getI (q_sh89 (w.fx fx4)) (by decide) (by decide) rfl lfX6_77 dX6_step_39 ?_
    refine q_iload_n 0 rfl rfl dX6_step_42 ?_
    refine q_iconst (v := (1 : Int32)) (by decide) dX6_step_43 ?_
    refine q_iadd dX6_step_44 ?_
    obtain ⟨hg7, h⟩ := q_guard h
    refine q_iast (q_sh98 (w.fx fx4)) (q_inb_in hg7) dX6_step_45 ?_
    obtain ⟨S8, e9, h⟩ := q_bindS h
    refine q_st e9 ?_
    have fx10 : q_Fx S S8 := e9 ▸ q_Fx.sI (fx4)
    refine q_aload_n 1 rfl rfl dX6_step_46 ?_
    refine q_getR (q_sh89 (w.fx fx10)) (by decide) (by decide) rfl lfX6_55 dX6_step_47 (r := (p + 10)) (aR.fx fx10).2 ?_
    refine q_getRN (q_shP10 (w.fx fx10) hp) (by decide) (by decide) rfl lfX6_105 dX6_step_50 (r := (p + 11)) (q_wrP10_1 (w.fx fx10) hp) ?_
    refine q_iload_n 0 rfl rfl dX6_step_53 ?_
    obtain ⟨hg11, h⟩ := q_guard h
    refine q_iald (q_shP11 (w.fx fx10) hp) (q_inb_in hg11) dX6_step_54 ?_
    refine q_istore_n [(2, .int (S8.2.1 (p + 11) (S.2.1 98 (S.2.1 89 7).toNatClampNeg).toNatClampNeg)), (1, .int (S.2.1 98 (S.2.1 89 7).toNatClampNeg)), (0, .ref 89)] rfl (by decide) rfl dX6_step_55 ?_
    refine q_iload_n 0 rfl rfl dX6_step_56 ?_
    refine q_bipush (v := (7 : Int32)) (by decide) dX6_step_57 ?_
    refine q_icmp_gt 88 (by decide) dX6_step_59 (fun c => ?_) (fun c => ?_)
    · rw [if_pos c] at h
      refine q_iload_n 0 rfl rfl dX6_step_88 ?_
      refine q_bipush (v := (18 : Int32)) (by decide) dX6_step_89 ?_
      refine q_icmp_gt 102 (by decide) dX6_step_91 (fun c => ?_) (fun c => ?_)
      · rw [if_pos c] at h
        refine q_iload_n 0 rfl rfl dX6_step_102 ?_
        refine q_bipush (v := (29 : Int32)) (by decide) dX6_step_103 ?_
        refine q_icmp_gt 125 (by decide) dX6_step_105 (fun c => ?_) (fun c => ?_)
        · rw [if_pos c] at h
          refine q_iload_n 0 rfl rfl dX6_step_125 ?_
          refine q_bipush (v := (34 : Int32)) (by decide) dX6_step_126 ?_
          refine q_icmp_gt 139 (by decide) dX6_step_128 (fun c => ?_) (fun c => ?_)
          · rw [if_pos c] at h
            refine q_iload_n 0 rfl rfl dX6_step_139 ?_
            refine q_bipush (v := (38 : Int32)) (by decide) dX6_step_140 ?_
            refine q_icmp_gt 153 (by decide) dX6_step_142 (fun c => ?_) (fun c => ?_)
            · rw [if_pos c] at h
              refine q_aload_n 2 rfl rfl dX6_step_153 ?_
              refine q_iload_n 1 rfl rfl dX6_step_154 ?_
              obtain ⟨r12, e13, h⟩ := q_bind h
              refine q_callV (ci := 6) (d := 5) (Mc := mX6_transfer) (kc := 0) (nc := 0) [.int (S.2.1 98 (S.2.1 89 7).toNatClampNeg)] okX6_transfer (q_sh89 (w.fx fx10)) (by decide) rfl lmX6_134 inX6_transfer seX6_transfer rfl (Nat.le_of_ble_eq_true rfl) (Nat.le_of_ble_eq_true rfl) (Nat.le_refl _) (Nat.le_refl _) dX6_step_155 (q_L.deep (by decide) (kX6_transfer (Q := fun r S' => r = none ∧ S' = r12) (w.fx fx10) hp (aR.fx fx10) e13 ⟨rfl, rfl⟩)) (q_kV ?_)
              have fx14 : q_Fx S r12 := q_Fx.tr (fx10) (fxX6_transfer e13)
              obtain rfl := Option.some.inj h
              exact q_vret rfl dX6_step_158 hQ
            · rw [if_neg c] at h
              refine q_aload_n 2 rfl rfl dX6_step_145 ?_
              refine q_iload_n 1 rfl rfl dX6_step_146 ?_
              obtain ⟨r15, e16, h⟩ := q_bind h
              refine q_callV (ci := 6) (d := 5) (Mc := mX6_useObject) (kc := 0) (nc := 0) [.int (S.2.1 98 (S.2.1 89 7).toNatClampNeg)] okX6_useObject (q_sh89 (w.fx fx10)) (by decide) rfl lmX6_131 inX6_useObject seX6_useObject rfl (Nat.le_of_ble_eq_true rfl) (Nat.le_of_ble_eq_true rfl) (Nat.le_refl _) (Nat.le_refl _) dX6_step_147 (q_L.deep (by decide) (kX6_useObject (Q := fun r S' => r = none ∧ S' = r15) (w.fx fx10) hp (aR.fx fx10) e16 ⟨rfl, rfl⟩)) (q_kV ?_)
              have fx17 : q_Fx S r15 := q_Fx.tr (fx10) (fxX6_useObject e16)
              refine q_goto 158 (by decide) dX6_step_150 ?_
              obtain rfl := Option.some.inj h
              exact q_vret rfl dX6_step_158 hQ
          · rw [if_neg c] at h
            refine q_aload_n 2 rfl rfl dX6_step_131 ?_
            refine q_iload_n 1 rfl rfl dX6_step_132 ?_
            obtain ⟨r18, e19, h⟩ := q_bind h
            refine q_callV (ci := 6) (d := 5) (Mc := mX6_useArray) (kc := 0) (nc := 0) [.int (S.2.1 98 (S.2.1 89 7).toNatClampNeg)] okX6_useArray (q_sh89 (w.fx fx10)) (by decide) rfl lmX6_128 inX6_useArray seX6_useArray rfl (Nat.le_of_ble_eq_true rfl) (Nat.le_of_ble_eq_true rfl) (Nat.le_refl _) (Nat.le_refl _) dX6_step_133 (q_L.deep (by decide) (kX6_useArray (Q := fun r S' => r = none ∧ S' = r18) (w.fx fx10) hp (aR.fx fx10) e19 ⟨rfl, rfl⟩)) (q_kV ?_)
            have fx20 : q_Fx S r18 := q_Fx.tr (fx10) (fxX6_useArray e19)
            refine q_goto 158 (by decide) dX6_step_136 ?_
            obtain rfl := Option.some.inj h
            exact q_vret rfl dX6_step_158 hQ
        · rw [if_neg c] at h
          refine q_aload_n 2 rfl rfl dX6_step_108 ?_
          refine q_iload_n 0 rfl rfl dX6_step_109 ?_
          refine q_aload_n 2 rfl rfl dX6_step_110 ?_
          refine q_getR (q_sh89 (w.fx fx10)) (by decide) (by decide) rfl lfX6_55 dX6_step_111 (r := (p + 10)) (aR.fx fx10).2 ?_
          refine q_getRN (q_shP10 (w.fx fx10) hp) (by decide) (by decide) rfl lfX6_110 dX6_step_114 (r := (p + 12)) (q_wrP10_2 (w.fx fx10) hp) ?_
          refine q_iload_n 1 rfl rfl dX6_step_117 ?_
          obtain ⟨hg21, h⟩ := q_guard h
          refine q_iald (q_shP12 (w.fx fx10) hp) (q_inb_in hg21) dX6_step_118 ?_
          obtain ⟨r22, e23, h⟩ := q_bind h
          refine q_callV (ci := 6) (d := 5) (Mc := mX6_decide) (kc := 0) (nc := 0) [.int (S8.2.1 (p + 11) (S.2.1 98 (S.2.1 89 7).toNatClampNeg).toNatClampNeg), .int (S8.2.1 (p + 12) (S.2.1 98 (S.2.1 89 7).toNatClampNeg).toNatClampNeg)] okX6_decide (q_sh89 (w.fx fx10)) (by decide) rfl lmX6_124 inX6_decide seX6_decide rfl (Nat.le_of_ble_eq_true rfl) (Nat.le_of_ble_eq_true rfl) (Nat.le_refl _) (Nat.le_refl _) dX6_step_119 (q_L.deep (by decide) (kX6_decide (Q := fun r S' => r = none ∧ S' = r22) (w.fx fx10) e23 ⟨rfl, rfl⟩)) (q_kV ?_)
          have fx24 : q_Fx S r22 := q_Fx.tr (fx10) (fxX6_decide e23)
          refine q_goto 158 (by decide) dX6_step_122 ?_
          obtain rfl := Option.some.inj h
          exact q_vret rfl dX6_step_158 hQ
      · rw [if_neg c] at h
        refine q_aload_n 2 rfl rfl dX6_step_94 ?_
        refine q_iload_n 0 rfl rfl dX6_step_95 ?_
        obtain ⟨r25, e26, h⟩ := q_bind h
        refine q_callV (ci := 6) (d := 5) (Mc := mX6_calculate) (kc := 0) (nc := 0) [.int (S8.2.1 (p + 11) (S.2.1 98 (S.2.1 89 7).toNatClampNeg).toNatClampNeg)] okX6_calculate (q_sh89 (w.fx fx10)) (by decide) rfl lmX6_120 inX6_calculate seX6_calculate rfl (Nat.le_of_ble_eq_true rfl) (Nat.le_of_ble_eq_true rfl) (Nat.le_refl _) (Nat.le_refl _) dX6_step_96 (q_L.deep (by decide) (kX6_calculate (Q := fun r S' => r = none ∧ S' = r25) (w.fx fx10) e26 ⟨rfl, rfl⟩)) (q_kV ?_)
        have fx27 : q_Fx S r25 := q_Fx.tr (fx10) (fxX6_calculate e26)
        refine q_goto 158 (by decide) dX6_step_99 ?_
        obtain rfl := Option.some.inj h
        exact q_vret rfl dX6_step_158 hQ
    · rw [if_neg c] at h
      refine q_aload_n 2 rfl rfl dX6_step_62 ?_
      refine q_iload_n 0 rfl rfl dX6_step_63 ?_
      refine q_aload_n 2 rfl rfl dX6_step_64 ?_
      refine q_getR (q_sh89 (w.fx fx10)) (by decide) (by decide) rfl lfX6_55 dX6_step_65 (r := (p + 10)) (aR.fx fx10).2 ?_
      refine q_getRN (q_shP10 (w.fx fx10) hp) (by decide) (by decide) rfl lfX6_110 dX6_step_68 (r := (p + 12)) (q_wrP10_2 (w.fx fx10) hp) ?_
      refine q_iload_n 1 rfl rfl dX6_step_71 ?_
      obtain ⟨hg28, h⟩ := q_guard h
      refine q_iald (q_shP12 (w.fx fx10) hp) (q_inb_in hg28) dX6_step_72 ?_
      refine q_aload_n 2 rfl rfl dX6_step_73 ?_
      refine q_getR (q_sh89 (w.fx fx10)) (by decide) (by decide) rfl lfX6_55 dX6_step_74 (r := (p + 10)) (aR.fx fx10).2 ?_
      refine q_getRN (q_shP10 (w.fx fx10) hp) (by decide) (by decide) rfl lfX6_113 dX6_step_77 (r := (p + 13)) (q_wrP10_3 (w.fx fx10) hp) ?_
      refine q_iload_n 1 rfl rfl dX6_step_80 ?_
      obtain ⟨hg29, h⟩ := q_guard h
      refine q_iald (q_shP13 (w.fx fx10) hp) (q_inb_in hg29) dX6_step_81 ?_
      obtain ⟨r30, e31, h⟩ := q_bind h
      refine q_callV (ci := 6) (d := 5) (Mc := mX6_move) (kc := 0) (nc := 0) [.int (S8.2.1 (p + 11) (S.2.1 98 (S.2.1 89 7).toNatClampNeg).toNatClampNeg), .int (S8.2.1 (p + 12) (S.2.1 98 (S.2.1 89 7).toNatClampNeg).toNatClampNeg), .int (S8.2.1 (p + 13) (S.2.1 98 (S.2.1 89 7).toNatClampNeg).toNatClampNeg)] okX6_move (q_sh89 (w.fx fx10)) (by decide) rfl lmX6_116 inX6_move seX6_move rfl (Nat.le_of_ble_eq_true rfl) (Nat.le_of_ble_eq_true rfl) (Nat.le_refl _) (Nat.le_refl _) dX6_step_82 (q_L.deep (by decide) (kX6_move (Q := fun r S' => r = none ∧ S' = r30) (w.fx fx10) e31 ⟨rfl, rfl⟩)) (q_kV ?_)
      have fx32 : q_Fx S r30 := q_Fx.tr (fx10) (fxX6_move e31)
      refine q_goto 158 (by decide) dX6_step_85 ?_
      obtain rfl := Option.some.inj h
      exact q_vret rfl dX6_step_158 hQ
  · have c := q_b_n.mp c; rw [q_if1 c] at h
    refine q_aload_n 1 rfl rfl dX6_step_23 ?_
    refine q_dup rfl dX6_step_24 ?_
    refine q_getI (q_sh89 (w.fx fx4)) (by decide) (by decide) rfl lfX6_102 dX6_step_25 ?_
    refine q_iconst (v := (1 : Int32)) (by decide) dX6_step_28 ?_
    refine q_iadd dX6_step_29 ?_
    refine q_putI (q_sh89 (w.fx fx4)) (by decide) (by decide) rfl rfl ⟨rfl, rfl⟩ lfX6_102 dX6_step_30 ?_
    obtain ⟨S33, e34, h⟩ := q_bindS h
    refine q_st e34 ?_
    have fx35 : q_Fx S S33 := e34 ▸ q_Fx.sI (fx4)
    obtain rfl := Option.some.inj h
    exact q_vret rfl dX6_step_33 hQ
set_option maxRecDepth 20000 in
theorem sX6_handlerOf_21 {S : QS} {g : QG} {Q : Option Value → QS → Prop} {p : Nat} {y1 : Int32} {y2 : Int32} {y3 : Int32} {x : Int32} {z : (Int32) ⊕ (Int32)} (w : q_Wire S) (hp : q_pok p) (aR : q_aR S p) (h : tX6_handlerOf_21 S p y1 y2 y3 x = some z) (hQ : (Sum.elim (fun r0 : Int32 => Q (some (.int r0)) S) (fun y : Int32 => q_L g mX6_handlerOf 2 0 0 Q 0 0 21 [(0, .ref 89), (1, .int y1), (2, .int y2), (3, .int y3), (4, .int y)] [] S) z)) : q_L g mX6_handlerOf 2 0 0 Q 0 0 21 [(0, .ref 89), (1, .int y1), (2, .int y2), (3, .int y3), (4, .int x)] [] S := by
  unfold tX6_handlerOf_21 at h
  refine q_iload 4 rfl dX6_handlerOf_21 ?_
  refine q_aload_n 0 rfl rfl dX6_handlerOf_23 ?_
  refine q_getR (q_sh89 w) (by decide) (by decide) rfl lfX6_45 dX6_handlerOf_24 (r := p) (aR).1 ?_
  refine q_getRN (q_shP0 w hp) (by decide) (by decide) rfl lfX6_264 dX6_handlerOf_27 (r := (p + 32)) (q_wrP0_13 w hp) ?_
  refine q_iload_n 3 rfl rfl dX6_handlerOf_30 ?_
  obtain ⟨hg1, h⟩ := q_guard h
  refine q_iald (q_shP32 w hp) (q_inb_in hg1) dX6_handlerOf_31 ?_
  refine q_icmp_ge 89 (by decide) dX6_handlerOf_32 (fun c => ?_) (fun c => ?_)
  · rw [if_pos c] at h
    refine q_iconst (v := (-1 : Int32)) (by decide) dX6_handlerOf_89 ?_
    cases h
    exact q_iret rfl rfl dX6_handlerOf_90 hQ
  · rw [if_neg c] at h
    refine q_aload_n 0 rfl rfl dX6_handlerOf_35 ?_
    refine q_getR (q_sh89 w) (by decide) (by decide) rfl lfX6_55 dX6_handlerOf_36 (r := (p + 10)) (aR).2 ?_
    refine q_iload_n 1 rfl rfl dX6_handlerOf_39 ?_
    refine q_iload 4 rfl dX6_handlerOf_40 ?_
    obtain ⟨r2, e3, h⟩ := q_bind h
    refine q_callV (ci := 1) (d := 1) (Mc := mX1_isCaught) (kc := 0) (nc := 0) [.int y1, .int x] okX1_isCaught (q_shP10 w hp) (by decide) rfl lmX6_267 inX1_isCaught seX1_isCaught rfl (Nat.le_of_ble_eq_true rfl) (Nat.le_of_ble_eq_true rfl) (Nat.le_refl _) (Nat.le_refl _) dX6_handlerOf_42 (q_L.deep (by decide) (kX1_isCaught (Q := fun r S' => r = some (.int (q_b r2)) ∧ S' = S) w hp e3 ⟨rfl, rfl⟩)) (q_kI ?_)
    refine q_if_eq 83 (by decide) dX6_handlerOf_45 (fun c => ?_) (fun c => ?_)
    · have c := q_b_0.mp c; rw [q_if0 c] at h
      refine q_iinc (v := (x + (1 : Int32))) 4 [(4, .int (x + (1 : Int32))), (0, .ref 89), (1, .int y1), (2, .int y2), (3, .int y3)] (by decide) rfl (congrArg (fun t => x + t) (by decide)) rfl dX6_handlerOf_83 ?_
      refine q_goto 21 (by decide) dX6_handlerOf_86 ?_
      refine q_sub [1, 2, 3, 4, 0] rfl ?_
      cases h
      exact hQ
    · have c := q_b_n.mp c; rw [q_if1 c] at h
      refine q_aload_n 0 rfl rfl dX6_handlerOf_48 ?_
      refine q_getR (q_sh89 w) (by decide) (by decide) rfl lfX6_45 dX6_handlerOf_49 (r := p) (aR).1 ?_
      refine q_getRN (q_shP0 w hp) (by decide) (by decide) rfl lfX6_150 dX6_handlerOf_52 (r := (p + 1)) (q_wrP0_0 w hp) ?_
      refine q_iload_n 2 rfl rfl dX6_handlerOf_55 ?_
      refine q_aload_n 0 rfl rfl dX6_handlerOf_56 ?_
      refine q_getR (q_sh89 w) (by decide) (by decide) rfl lfX6_55 dX6_handlerOf_57 (r := (p + 10)) (aR).2 ?_
      refine q_getRN (q_shP10 w hp) (by decide) (by decide) rfl lfX6_270 dX6_handlerOf_60 (r := (p + 21)) (q_wrP10_13 w hp) ?_
      refine q_iload 4 rfl dX6_handlerOf_63 ?_
      obtain ⟨hg4, h⟩ := q_guard h
      refine q_iald (q_shP21 w hp) (q_inb_in hg4) dX6_handlerOf_65 ?_
      obtain ⟨r5, e6, h⟩ := q_bind h
      refine q_callV (ci := 0) (d := 1) (Mc := mX0_isBelow) (kc := 0) (nc := 0) [.int y2, .int (S.2.1 (p + 21) x.toNatClampNeg)] okX0_isBelow (q_shP1 w hp) (by decide) rfl lmX6_209 inX0_isBelow seX0_isBelow rfl (Nat.le_of_ble_eq_true rfl) (Nat.le_of_ble_eq_true rfl) (Nat.le_refl _) (Nat.le_refl _) dX6_handlerOf_66 (q_L.deep (by decide) (kX0_isBelow (Q := fun r S' => r = some (.int (q_b r5)) ∧ S' = S) w hp e6 ⟨rfl, rfl⟩)) (q_kI ?_)
      refine q_if_eq 83 (by decide) dX6_handlerOf_69 (fun c => ?_) (fun c => ?_)
      · have c := q_b_0.mp c; rw [q_if0 c] at h
        refine q_iinc (v := (x + (1 : Int32))) 4 [(4, .int (x + (1 : Int32))), (0, .ref 89), (1, .int y1), (2, .int y2), (3, .int y3)] (by decide) rfl (congrArg (fun t => x + t) (by decide)) rfl dX6_handlerOf_83 ?_
        refine q_goto 21 (by decide) dX6_handlerOf_86 ?_
        refine q_sub [1, 2, 3, 4, 0] rfl ?_
        cases h
        exact hQ
      · have c := q_b_n.mp c; rw [q_if1 c] at h
        refine q_aload_n 0 rfl rfl dX6_handlerOf_72 ?_
        refine q_getR (q_sh89 w) (by decide) (by decide) rfl lfX6_55 dX6_handlerOf_73 (r := (p + 10)) (aR).2 ?_
        refine q_getRN (q_shP10 w hp) (by decide) (by decide) rfl lfX6_273 dX6_handlerOf_76 (r := (p + 20)) (q_wrP10_12 w hp) ?_
        refine q_iload 4 rfl dX6_handlerOf_79 ?_
        obtain ⟨hg7, h⟩ := q_guard h
        refine q_iald (q_shP20 w hp) (q_inb_in hg7) dX6_handlerOf_81 ?_
        cases h
        exact q_iret rfl rfl dX6_handlerOf_82 hQ
theorem lX6_handlerOf_21 {S : QS} {g : QG} {Q : Option Value → QS → Prop} {p : Nat} {y1 : Int32} {y2 : Int32} {y3 : Int32} {r : Int32} (w : q_Wire S) (hp : q_pok p) (aR : q_aR S p) (hQ : Q (some (.int r)) S) : ∀ (c : Nat) (x : Int32), q_it (tX6_handlerOf_21 S p y1 y2 y3) c x = some r → q_L g mX6_handlerOf 2 0 0 Q 0 0 21 [(0, .ref 89), (1, .int y1), (2, .int y2), (3, .int y3), (4, .int x)] [] S := by
  intro c
  induction c with
  | zero => intro x  h; cases h
  | succ c ih =>
    intro x  h
    simp only [q_it] at h
    cases hz : tX6_handlerOf_21 S p y1 y2 y3 x with
    | none => rw [hz] at h; cases h
    | some z =>
      rw [hz] at h
      refine sX6_handlerOf_21 w hp aR hz ?_
      rcases z with z | y
      · cases h; exact hQ
      · exact ih y  h
theorem kX6_handlerOf_21 {S : QS} {g : QG} {Q : Option Value → QS → Prop} {p : Nat} {y1 : Int32} {y2 : Int32} {y3 : Int32} {y4 : Int32} {r : Int32} (w : q_Wire S) (hp : q_pok p) (aR : q_aR S p) (h : fX6_handlerOf_21 S p y1 y2 y3 y4 = some r) (hQ : Q (some (.int r)) S) : q_L g mX6_handlerOf 2 0 0 Q 0 0 21 [(0, .ref 89), (1, .int y1), (2, .int y2), (3, .int y3), (4, .int y4)] [] S := by
  obtain ⟨c, hc⟩ := q_run_it h
  exact lX6_handlerOf_21 w hp aR hQ c y4  hc
set_option maxRecDepth 20000 in
theorem kX6_handlerOf {S : QS} {g : QG} {Q : Option Value → QS → Prop} {p : Nat} {x1 : Int32} {x2 : Int32} {r : Int32} (w : q_Wire S) (hp : q_pok p) (aR : q_aR S p) (h : fX6_handlerOf S p x1 x2 = some r) (hQ : Q (some (.int r)) S) : q_M g mX6_handlerOf 2 0 0 [.ref 89, .int x1, .int x2] S Q := by
  unfold fX6_handlerOf at h
  show q_L g mX6_handlerOf 2 0 0 Q 0 0 0 [(0, .ref 89), (1, .int x1), (2, .int x2)] [] S
  refine q_aload_n 0 rfl rfl dX6_handlerOf_0 ?_
  refine q_getR (q_sh89 w) (by decide) (by decide) rfl lfX6_55 dX6_handlerOf_1 (r := (p + 10)) (aR).2 ?_
  refine q_getRN (q_shP10 w hp) (by decide) (by decide) rfl lfX6_258 dX6_handlerOf_4 (r := (p + 15)) (q_wrP10_5 w hp) ?_
  refine q_iload_n 1 rfl rfl dX6_handlerOf_7 ?_
  obtain ⟨hg8, h⟩ := q_guard h
  refine q_iald (q_shP15 w hp) (q_inb_in hg8) dX6_handlerOf_8 ?_
  refine q_istore_n [(3, .int (S.2.1 (p + 15) x1.toNatClampNeg)), (0, .ref 89), (1, .int x1), (2, .int x2)] rfl (by decide) rfl dX6_handlerOf_9 ?_
  refine q_aload_n 1 rfl rfl dX6_handlerOf_10 ?_
  refine q_getR (q_sh89 w) (by decide) (by decide) rfl lfX6_45 dX6_handlerOf_11 (r := p) (aR).1 ?_
  refine q_getRN (q_shP0 w hp) (by decide) (by decide) rfl lfX6_261 dX6_handlerOf_14 (r := (p + 31)) (q_wrP0_12 w hp) ?_
  refine q_iload_n 0 rfl rfl dX6_handlerOf_17 ?_
  obtain ⟨hg9, h⟩ := q_guard h
  refine q_iald (q_shP31 w hp) (q_inb_in hg9) dX6_handlerOf_18 ?_
  refine q_istore [(4, .int (S.2.1 (p + 31) (S.2.1 (p + 15) x1.toNatClampNeg).toNatClampNeg)), (3, .int (S.2.1 (p + 15) x1.toNatClampNeg)), (0, .ref 89), (1, .int x1), (2, .int x2)] (by decide) rfl dX6_handlerOf_19 ?_
  refine q_sub [2, 3, 4, 1, 0] rfl ?_
  exact kX6_handlerOf_21 w hp (aR) h hQ
theorem q_decI (x : Int32) : x + Int32.ofInt (-1) = x - (1 : Int32) := by rw [Int32.sub_eq_add_neg]; exact congrArg (fun t => x + t) (by decide)
set_option maxRecDepth 20000 in
theorem sX6_passUp_20 {g : QG} {Q : Option Value → QS → Prop} {p : Nat} {y1 : Int32} {x : Int32 × Int32 × QS} {z : (QS) ⊕ (Int32 × Int32 × QS)} (w : q_Wire x.2.2) (hp : q_pok p) (aR : q_aR x.2.2 p) (h : tX6_passUp_20 p y1 x = some z) (hQ : (Sum.elim (fun r0 : QS => Q none r0) (fun y : Int32 × Int32 × QS => q_L g mX6_passUp 3 0 0 Q 0 0 20 [(0, .ref 89), (1, .int y1), (2, .int y.1), (3, .int y.2.1)] [] y.2.2) z)) : q_L g mX6_passUp 3 0 0 Q 0 0 20 [(0, .ref 89), (1, .int y1), (2, .int x.1), (3, .int x.2.1)] [] x.2.2 := by
  unfold tX6_passUp_20 at h
  refine q_iload_n 3 rfl rfl dX6_passUp_20 ?_
  refine q_if_lt 97 (by decide) dX6_passUp_21 (fun c => ?_) (fun c => ?_)
  · rw [if_pos c] at h
    refine q_aload_n 0 rfl rfl dX6_passUp_97 ?_
    refine q_iconst (v := (1 : Int32)) (by decide) dX6_passUp_98 ?_
    refine q_putI (q_sh89 w) (by decide) (by decide) rfl rfl ⟨rfl, rfl⟩ lfX6_71 dX6_passUp_99 ?_
    obtain ⟨S1, e2, h⟩ := q_bindS h
    refine q_st e2 ?_
    have fx3 : q_Fx x.2.2 S1 := e2 ▸ q_Fx.sI (q_Fx.rf x.2.2)
    refine q_aload_n 0 rfl rfl dX6_passUp_102 ?_
    refine q_aload_n 0 rfl rfl dX6_passUp_103 ?_
    refine q_getR (q_sh89 (w.fx fx3)) (by decide) (by decide) rfl lfX6_12 dX6_passUp_104 (r := 90) (q_wr89_2 (w.fx fx3)) ?_
    refine q_getRN (q_sh90 (w.fx fx3)) (by decide) (by decide) rfl lfX6_257 dX6_passUp_107 (r := 94) (q_wr90_3 (w.fx fx3)) ?_
    refine q_iload_n 1 rfl rfl dX6_passUp_110 ?_
    obtain ⟨hg4, h⟩ := q_guard h
    refine q_iald (q_sh94 (w.fx fx3)) (q_inb_in hg4) dX6_passUp_111 ?_
    refine q_putI (q_sh89 (w.fx fx3)) (by decide) (by decide) rfl rfl ⟨rfl, rfl⟩ lfX6_42 dX6_passUp_112 ?_
    obtain ⟨S5, e6, h⟩ := q_bindS h
    refine q_st e6 ?_
    have fx7 : q_Fx x.2.2 S5 := e6 ▸ q_Fx.sI (fx3)
    cases h
    exact q_vret rfl dX6_passUp_115 hQ
  · rw [if_neg c] at h
    refine q_aload_n 0 rfl rfl dX6_passUp_24 ?_
    refine q_iload_n 2 rfl rfl dX6_passUp_25 ?_
    refine q_aload_n 0 rfl rfl dX6_passUp_26 ?_
    refine q_getR (q_sh89 w) (by decide) (by decide) rfl lfX6_12 dX6_passUp_27 (r := 90) (q_wr89_2 w) ?_
    refine q_getRN (q_sh90 w) (by decide) (by decide) rfl lfX6_163 dX6_passUp_30 (r := 91) (q_wr90_0 w) ?_
    refine q_iload_n 1 rfl rfl dX6_passUp_33 ?_
    obtain ⟨hg8, h⟩ := q_guard h
    refine q_iald (q_sh91 w) (q_inb_in hg8) dX6_passUp_34 ?_
    obtain ⟨r9, e10, h⟩ := q_bind h
    refine q_callV (ci := 6) (d := 2) (Mc := mX6_handlerOf) (kc := 0) (nc := 0) [.int x.1, .int (x.2.2.2.1 91 y1.toNatClampNeg)] okX6_handlerOf (q_sh89 w) (by decide) rfl lmX6_254 inX6_handlerOf seX6_handlerOf rfl (Nat.le_of_ble_eq_true rfl) (Nat.le_of_ble_eq_true rfl) (Nat.le_refl _) (Nat.le_refl _) dX6_passUp_35 (q_L.deep (by decide) (kX6_handlerOf (Q := fun r S' => r = some (.int r9) ∧ S' = x.2.2) w hp (aR) e10 ⟨rfl, rfl⟩)) (q_kI ?_)
    refine q_istore [(4, .int r9), (0, .ref 89), (1, .int y1), (2, .int x.1), (3, .int x.2.1)] (by decide) rfl dX6_passUp_38 ?_
    refine q_iload 0 rfl dX6_passUp_40 ?_
    refine q_iconst (v := (-1 : Int32)) (by decide) dX6_passUp_42 ?_
    refine q_icmp_eq 72 (by decide) dX6_passUp_43 (fun c => ?_) (fun c => ?_)
    · rw [if_pos c] at h
      refine q_iload_n 4 rfl rfl dX6_passUp_72 ?_
      refine q_if_le 89 (by decide) dX6_passUp_73 (fun c => ?_) (fun c => ?_)
      · rw [if_pos c] at h
        refine q_iload_n 3 rfl rfl dX6_passUp_89 ?_
        refine q_istore_n [(2, .int x.1), (4, .int r9), (0, .ref 89), (1, .int y1), (3, .int x.2.1)] rfl (by decide) rfl dX6_passUp_90 ?_
        refine q_iinc (v := (x.2.1 - (1 : Int32))) 4 [(3, .int (x.2.1 - (1 : Int32))), (2, .int x.1), (4, .int r9), (0, .ref 89), (1, .int y1)] (by decide) rfl (q_decI x.2.1) rfl dX6_passUp_91 ?_
        refine q_goto 20 (by decide) dX6_passUp_94 ?_
        refine q_sub [3, 4, 1, 0] rfl ?_
        cases h
        exact hQ
      · rw [if_neg c] at h
        refine q_aload_n 1 rfl rfl dX6_passUp_76 ?_
        refine q_getR (q_sh89 w) (by decide) (by decide) rfl lfX6_26 dX6_passUp_77 (r := 98) (q_wr89_5 w) ?_
        refine q_iload_n 4 rfl rfl dX6_passUp_80 ?_
        refine q_iconst (v := (1 : Int32)) (by decide) dX6_passUp_81 ?_
        refine q_isub dX6_passUp_82 ?_
        obtain ⟨hg11, h⟩ := q_guard h
        refine q_iald (q_sh98 w) (q_inb_in hg11) dX6_passUp_83 ?_
        refine q_iconst (v := (1 : Int32)) (by decide) dX6_passUp_84 ?_
        refine q_isub dX6_passUp_85 ?_
        refine q_goto 90 (by decide) dX6_passUp_86 ?_
        refine q_istore_n [(2, .int ((x.2.2.2.1 98 (x.2.1 - (1 : Int32)).toNatClampNeg) - (1 : Int32))), (4, .int r9), (0, .ref 89), (1, .int y1), (3, .int x.2.1)] rfl (by decide) rfl dX6_passUp_90 ?_
        refine q_iinc (v := (x.2.1 - (1 : Int32))) 4 [(3, .int (x.2.1 - (1 : Int32))), (2, .int ((x.2.2.2.1 98 (x.2.1 - (1 : Int32)).toNatClampNeg) - (1 : Int32))), (4, .int r9), (0, .ref 89), (1, .int y1)] (by decide) rfl (q_decI x.2.1) rfl dX6_passUp_91 ?_
        refine q_goto 20 (by decide) dX6_passUp_94 ?_
        refine q_sub [3, 4, 1, 0] rfl ?_
        cases h
        exact hQ
    · rw [if_neg c] at h
      refine q_aload_n 1 rfl rfl dX6_passUp_46 ?_
      refine q_iload_n 4 rfl rfl dX6_passUp_47 ?_
      refine q_putI (q_sh89 w) (by decide) (by decide) rfl rfl ⟨rfl, rfl⟩ lfX6_77 dX6_passUp_48 ?_
      obtain ⟨S12, e13, h⟩ := q_bindS h
      refine q_st e13 ?_
      have fx14 : q_Fx x.2.2 S12 := e13 ▸ q_Fx.sI (q_Fx.rf x.2.2)
      refine q_aload_n 1 rfl rfl dX6_passUp_51 ?_
      refine q_getR (q_sh89 (w.fx fx14)) (by decide) (by decide) rfl lfX6_29 dX6_passUp_52 (r := 99) (q_wr89_6 (w.fx fx14)) ?_
      refine q_iload_n 4 rfl rfl dX6_passUp_55 ?_
      refine q_iconst (v := (0 : Int32)) (by decide) dX6_passUp_56 ?_
      obtain ⟨hg15, h⟩ := q_guard h
      refine q_iast (q_sh99 (w.fx fx14)) (q_inb_in hg15) dX6_passUp_57 ?_
      obtain ⟨S16, e17, h⟩ := q_bindS h
      refine q_st e17 ?_
      have fx18 : q_Fx x.2.2 S16 := e17 ▸ q_Fx.sI (fx14)
      refine q_aload_n 1 rfl rfl dX6_passUp_58 ?_
      refine q_getR (q_sh89 (w.fx fx18)) (by decide) (by decide) rfl lfX6_26 dX6_passUp_59 (r := 98) (q_wr89_5 (w.fx fx18)) ?_
      refine q_iload_n 4 rfl rfl dX6_passUp_62 ?_
      refine q_iload 0 rfl dX6_passUp_63 ?_
      obtain ⟨hg19, h⟩ := q_guard h
      refine q_iast (q_sh98 (w.fx fx18)) (q_inb_in hg19) dX6_passUp_65 ?_
      obtain ⟨S20, e21, h⟩ := q_bindS h
      refine q_st e21 ?_
      have fx22 : q_Fx x.2.2 S20 := e21 ▸ q_Fx.sI (fx18)
      refine q_aload_n 1 rfl rfl dX6_passUp_66 ?_
      refine q_iload_n 2 rfl rfl dX6_passUp_67 ?_
      obtain ⟨r23, e24, h⟩ := q_bind h
      refine q_callV (ci := 6) (d := 2) (Mc := mX6_pushObject) (kc := 0) (nc := 0) [.int y1] okX6_pushObject (q_sh89 (w.fx fx22)) (by decide) rfl lmX6_169 inX6_pushObject seX6_pushObject rfl (Nat.le_of_ble_eq_true rfl) (Nat.le_of_ble_eq_true rfl) (Nat.le_refl _) (Nat.le_refl _) dX6_passUp_68 (q_L.deep (by decide) (kX6_pushObject (Q := fun r S' => r = none ∧ S' = r23) (w.fx fx22) e24 ⟨rfl, rfl⟩)) (q_kV ?_)
      have fx25 : q_Fx x.2.2 r23 := q_Fx.tr (fx22) (fxX6_pushObject e24)
      cases h
      exact q_vret rfl dX6_passUp_71 hQ
theorem lX6_passUp_20 {g : QG} {Q : Option Value → QS → Prop} {p : Nat} {y1 : Int32} {r : QS} (hp : q_pok p) (hQ : Q none r) : ∀ (c : Nat) (x : Int32 × Int32 × QS), q_Wire x.2.2 → q_aR x.2.2 p → q_it (tX6_passUp_20 p y1) c x = some r → q_L g mX6_passUp 3 0 0 Q 0 0 20 [(0, .ref 89), (1, .int y1), (2, .int x.1), (3, .int x.2.1)] [] x.2.2 := by
  intro c
  induction c with
  | zero => intro x w aR h; cases h
  | succ c ih =>
    intro x w aR h
    simp only [q_it] at h
    cases hz : tX6_passUp_20 p y1 x with
    | none => rw [hz] at h; cases h
    | some z =>
      rw [hz] at h
      refine sX6_passUp_20 w hp aR hz ?_
      rcases z with z | y
      · cases h; exact hQ
      · have fz := fxtX6_passUp_20 hz; exact ih y (w.fx fz) (aR.fx fz) h
theorem kX6_passUp_20 {S : QS} {g : QG} {Q : Option Value → QS → Prop} {p : Nat} {y1 : Int32} {y2 : Int32} {y3 : Int32} {r : QS} (w : q_Wire S) (hp : q_pok p) (aR : q_aR S p) (h : fX6_passUp_20 S p y1 y2 y3 = some r) (hQ : Q none r) : q_L g mX6_passUp 3 0 0 Q 0 0 20 [(0, .ref 89), (1, .int y1), (2, .int y2), (3, .int y3)] [] S := by
  obtain ⟨c, hc⟩ := q_run_it h
  exact lX6_passUp_20 hp hQ c (y2, y3, S) w aR hc
set_option maxRecDepth 20000 in
theorem kX6_passUp {S : QS} {g : QG} {Q : Option Value → QS → Prop} {p : Nat}  {r : QS} (w : q_Wire S) (hp : q_pok p) (aR : q_aR S p) (h : fX6_passUp S p = some r) (hQ : Q none r) : q_M g mX6_passUp 3 0 0 [.ref 89] S Q := by
  unfold fX6_passUp at h
  show q_L g mX6_passUp 3 0 0 Q 0 0 0 [(0, .ref 89)] [] S
  refine q_aload_n 0 rfl rfl dX6_passUp_0 ?_
  refine q_getI (q_sh89 w) (by decide) (by decide) rfl lfX6_74 dX6_passUp_1 ?_
  refine q_istore_n [(1, .int (S.2.1 89 9)), (0, .ref 89)] rfl (by decide) rfl dX6_passUp_4 ?_
  refine q_aload_n 1 rfl rfl dX6_passUp_5 ?_
  refine q_getI (q_sh89 w) (by decide) (by decide) rfl lfX6_38 dX6_passUp_6 ?_
  refine q_istore_n [(2, .int (S.2.1 89 16)), (1, .int (S.2.1 89 9)), (0, .ref 89)] rfl (by decide) rfl dX6_passUp_9 ?_
  refine q_aload_n 2 rfl rfl dX6_passUp_10 ?_
  refine q_iconst (v := (0 : Int32)) (by decide) dX6_passUp_11 ?_
  refine q_putI (q_sh89 w) (by decide) (by decide) rfl rfl ⟨rfl, rfl⟩ lfX6_74 dX6_passUp_12 ?_
  obtain ⟨S26, e27, h⟩ := q_bindS h
  refine q_st e27 ?_
  have fx28 : q_Fx S S26 := e27 ▸ q_Fx.sI (q_Fx.rf S)
  refine q_aload_n 2 rfl rfl dX6_passUp_15 ?_
  refine q_getI (q_sh89 (w.fx fx28)) (by decide) (by decide) rfl lfX6_77 dX6_passUp_16 ?_
  refine q_istore_n [(3, .int (S26.2.1 89 7)), (2, .int (S.2.1 89 16)), (1, .int (S.2.1 89 9)), (0, .ref 89)] rfl (by decide) rfl dX6_passUp_19 ?_
  refine q_sub [3, 2, 1, 0] rfl ?_
  exact kX6_passUp_20 (w.fx fx28) hp (aR.fx fx28) h hQ
set_option maxRecDepth 20000 in
theorem kX6_outcomeOf_141 {S : QS} {g : QG} {Q : Option Value → QS → Prop} {p : Nat}  {r : Int32 × QS} (w : q_Wire S) (hp : q_pok p) (aR : q_aR S p) (h : fX6_outcomeOf_141 S p = some r) (hQ : Q (some (.int r.1)) r.2) : q_L g mX6_outcomeOf 7 0 0 Q 0 0 141 [(0, .ref 89)] [] S := by
  unfold fX6_outcomeOf_141 at h
  refine q_aload_n 0 rfl rfl dX6_outcomeOf_141 ?_
  refine q_getI (q_sh89 w) (by decide) (by decide) rfl lfX6_71 dX6_outcomeOf_142 ?_
  refine q_iconst (v := (-1 : Int32)) (by decide) dX6_outcomeOf_145 ?_
  obtain ⟨v8, hv, h⟩ := q_bind h
  have fx9 : q_Fx S v8 := by
    replace h := hv
    by_cases c : (S.2.1 89 8) = (-1 : Int32)
    · rw [if_pos c] at h
      obtain ⟨S1, e2, h⟩ := q_bindS h
      have fx3 : q_Fx S S1 := e2 ▸ q_Fx.sI (q_Fx.rf S)
      obtain ⟨hg4, h⟩ := q_guard h
      obtain ⟨S5, e6, h⟩ := q_bindS h
      have fx7 : q_Fx S S5 := e6 ▸ q_Fx.sI (fx3)
      obtain rfl := Option.some.inj h
      exact fx7
    · rw [if_neg c] at h
      obtain rfl := Option.some.inj h
      exact q_Fx.rf _
  have K1 : q_L g mX6_outcomeOf 7 0 0 Q 0 0 167 [(0, .ref 89)] [] v8 := by
    refine q_aload_n 0 rfl rfl dX6_outcomeOf_167 ?_
    refine q_iconst (v := (0 : Int32)) (by decide) dX6_outcomeOf_168 ?_
    refine q_putI (q_sh89 (w.fx fx9)) (by decide) (by decide) rfl rfl ⟨rfl, rfl⟩ lfX6_56 dX6_outcomeOf_169 ?_
    obtain ⟨S10, e11, h⟩ := q_bindS h
    refine q_st e11 ?_
    have fx12 : q_Fx S S10 := e11 ▸ q_Fx.sI (fx9)
    refine q_aload_n 0 rfl rfl dX6_outcomeOf_172 ?_
    refine q_getI (q_sh89 (w.fx fx12)) (by decide) (by decide) rfl lfX6_71 dX6_outcomeOf_173 ?_
    obtain rfl := Option.some.inj h
    exact q_iret rfl rfl dX6_outcomeOf_176 hQ
  replace h := hv
  refine q_icmp_ne 167 (by decide) dX6_outcomeOf_146 (fun c => ?_) (fun c => ?_)
  · rw [if_neg c] at h
    obtain rfl := Option.some.inj h
    refine q_sub [0] rfl ?_
    exact K1
  · rw [if_pos c] at h
    refine q_aload_n 0 rfl rfl dX6_outcomeOf_149 ?_
    refine q_iconst (v := (2 : Int32)) (by decide) dX6_outcomeOf_150 ?_
    refine q_putI (q_sh89 w) (by decide) (by decide) rfl rfl ⟨rfl, rfl⟩ lfX6_71 dX6_outcomeOf_151 ?_
    obtain ⟨S1, e2, h⟩ := q_bindS h
    refine q_st e2 ?_
    have fx3 : q_Fx S S1 := e2 ▸ q_Fx.sI (q_Fx.rf S)
    refine q_aload_n 0 rfl rfl dX6_outcomeOf_154 ?_
    refine q_aload_n 0 rfl rfl dX6_outcomeOf_155 ?_
    refine q_getR (q_sh89 (w.fx fx3)) (by decide) (by decide) rfl lfX6_26 dX6_outcomeOf_156 (r := 98) (q_wr89_5 (w.fx fx3)) ?_
    refine q_aload_n 0 rfl rfl dX6_outcomeOf_159 ?_
    refine q_getI (q_sh89 (w.fx fx3)) (by decide) (by decide) rfl lfX6_77 dX6_outcomeOf_160 ?_
    obtain ⟨hg4, h⟩ := q_guard h
    refine q_iald (q_sh98 (w.fx fx3)) (q_inb_in hg4) dX6_outcomeOf_163 ?_
    refine q_putI (q_sh89 (w.fx fx3)) (by decide) (by decide) rfl rfl ⟨rfl, rfl⟩ lfX6_38 dX6_outcomeOf_164 ?_
    obtain ⟨S5, e6, h⟩ := q_bindS h
    refine q_st e6 ?_
    have fx7 : q_Fx S S5 := e6 ▸ q_Fx.sI (fx3)
    obtain rfl := Option.some.inj h
    refine q_sub [0] rfl ?_
    exact K1
set_option maxRecDepth 20000 in
theorem sX6_outcomeOf_97 {g : QG} {Q : Option Value → QS → Prop} {p : Nat} {y2 : Int32} {x : Int32 × QS} {z : (Int32 × QS) ⊕ (Int32 × QS)} (w : q_Wire x.2) (hp : q_pok p) (aR : q_aR x.2 p) (h : tX6_outcomeOf_97 p y2 x = some z) (hQ : (Sum.elim (fun r0 : Int32 × QS => Q (some (.int r0.1)) r0.2) (fun y : Int32 × QS => q_L g mX6_outcomeOf 7 0 0 Q 0 0 97 [(0, .ref 89), (2, .int y2), (3, .int y.1)] [] y.2) z)) : q_L g mX6_outcomeOf 7 0 0 Q 0 0 97 [(0, .ref 89), (2, .int y2), (3, .int x.1)] [] x.2 := by
  unfold tX6_outcomeOf_97 at h
  refine q_iload_n 2 rfl rfl dX6_outcomeOf_97 ?_
  refine q_iload_n 1 rfl rfl dX6_outcomeOf_98 ?_
  refine q_icmp_ge 141 (by decide) dX6_outcomeOf_99 (fun c => ?_) (fun c => ?_)
  · rw [if_pos c] at h
    refine q_sub [0] rfl ?_
    obtain ⟨r13, e14, h⟩ := q_bind h
    cases h
    exact kX6_outcomeOf_141 w hp (aR) e14 hQ
  · rw [if_neg c] at h
    refine q_aload_n 0 rfl rfl dX6_outcomeOf_102 ?_
    refine q_getI (q_sh89 w) (by decide) (by decide) rfl lfX6_71 dX6_outcomeOf_103 ?_
    refine q_iconst (v := (-1 : Int32)) (by decide) dX6_outcomeOf_106 ?_
    refine q_icmp_ne 141 (by decide) dX6_outcomeOf_107 (fun c => ?_) (fun c => ?_)
    · rw [if_neg c] at h
      refine q_sub [0] rfl ?_
      obtain ⟨r15, e16, h⟩ := q_bind h
      cases h
      exact kX6_outcomeOf_141 w hp (aR) e16 hQ
    · rw [if_pos c] at h
      refine q_aload_n 0 rfl rfl dX6_outcomeOf_110 ?_
      refine q_dup rfl dX6_outcomeOf_111 ?_
      refine q_getI (q_sh89 w) (by decide) (by decide) rfl lfX6_68 dX6_outcomeOf_112 ?_
      refine q_iconst (v := (1 : Int32)) (by decide) dX6_outcomeOf_115 ?_
      refine q_iadd dX6_outcomeOf_116 ?_
      refine q_putI (q_sh89 w) (by decide) (by decide) rfl rfl ⟨rfl, rfl⟩ lfX6_68 dX6_outcomeOf_117 ?_
      obtain ⟨S17, e18, h⟩ := q_bindS h
      refine q_st e18 ?_
      have fx19 : q_Fx x.2 S17 := e18 ▸ q_Fx.sI (q_Fx.rf x.2)
      refine q_aload_n 0 rfl rfl dX6_outcomeOf_120 ?_
      obtain ⟨r20, e21, h⟩ := q_bind h
      refine q_callV (ci := 6) (d := 6) (Mc := mX6_step) (kc := 0) (nc := 0) [] okX6_step (q_sh89 (w.fx fx19)) (by decide) rfl lmX6_92 inX6_step seX6_step rfl (Nat.le_of_ble_eq_true rfl) (Nat.le_of_ble_eq_true rfl) (Nat.le_refl _) (Nat.le_refl _) dX6_outcomeOf_121 (q_L.deep (by decide) (kX6_step (Q := fun r S' => r = none ∧ S' = r20) (w.fx fx19) hp (aR.fx fx19) e21 ⟨rfl, rfl⟩)) (q_kV ?_)
      have fx22 : q_Fx x.2 r20 := q_Fx.tr (fx19) (fxX6_step e21)
      refine q_aload_n 0 rfl rfl dX6_outcomeOf_124 ?_
      refine q_getI (q_sh89 (w.fx fx22)) (by decide) (by decide) rfl lfX6_74 dX6_outcomeOf_125 ?_
      refine q_if_eq 135 (by decide) dX6_outcomeOf_128 (fun c => ?_) (fun c => ?_)
      · rw [if_pos c] at h
        refine q_iinc (v := (x.1 + (1 : Int32))) 2 [(3, .int (x.1 + (1 : Int32))), (0, .ref 89), (2, .int y2)] (by decide) rfl (congrArg (fun t => x.1 + t) (by decide)) rfl dX6_outcomeOf_135 ?_
        refine q_goto 97 (by decide) dX6_outcomeOf_138 ?_
        refine q_sub [1, 2, 0] rfl ?_
        cases h
        exact hQ
      · rw [if_neg c] at h
        refine q_aload_n 0 rfl rfl dX6_outcomeOf_131 ?_
        obtain ⟨r23, e24, h⟩ := q_bind h
        refine q_callV (ci := 6) (d := 6) (Mc := mX6_passUp) (kc := 0) (nc := 0) [] okX6_passUp (q_sh89 (w.fx fx22)) (by decide) rfl lmX6_95 inX6_passUp seX6_passUp rfl (Nat.le_of_ble_eq_true rfl) (Nat.le_of_ble_eq_true rfl) (Nat.le_refl _) (Nat.le_refl _) dX6_outcomeOf_132 (q_L.deep (by decide) (kX6_passUp (Q := fun r S' => r = none ∧ S' = r23) (w.fx fx22) hp (aR.fx fx22) e24 ⟨rfl, rfl⟩)) (q_kV ?_)
        have fx25 : q_Fx x.2 r23 := q_Fx.tr (fx22) (fxX6_passUp e24)
        refine q_iinc (v := (x.1 + (1 : Int32))) 2 [(3, .int (x.1 + (1 : Int32))), (0, .ref 89), (2, .int y2)] (by decide) rfl (congrArg (fun t => x.1 + t) (by decide)) rfl dX6_outcomeOf_135 ?_
        refine q_goto 97 (by decide) dX6_outcomeOf_138 ?_
        refine q_sub [1, 2, 0] rfl ?_
        cases h
        exact hQ
theorem lX6_outcomeOf_97 {g : QG} {Q : Option Value → QS → Prop} {p : Nat} {y2 : Int32} {r : Int32 × QS} (hp : q_pok p) (hQ : Q (some (.int r.1)) r.2) : ∀ (c : Nat) (x : Int32 × QS), q_Wire x.2 → q_aR x.2 p → q_it (tX6_outcomeOf_97 p y2) c x = some r → q_L g mX6_outcomeOf 7 0 0 Q 0 0 97 [(0, .ref 89), (2, .int y2), (3, .int x.1)] [] x.2 := by
  intro c
  induction c with
  | zero => intro x w aR h; cases h
  | succ c ih =>
    intro x w aR h
    simp only [q_it] at h
    cases hz : tX6_outcomeOf_97 p y2 x with
    | none => rw [hz] at h; cases h
    | some z =>
      rw [hz] at h
      refine sX6_outcomeOf_97 w hp aR hz ?_
      rcases z with z | y
      · cases h; exact hQ
      · have fz := fxtX6_outcomeOf_97 hz; exact ih y (w.fx fz) (aR.fx fz) h
theorem kX6_outcomeOf_97 {S : QS} {g : QG} {Q : Option Value → QS → Prop} {p : Nat} {y2 : Int32} {y3 : Int32} {r : Int32 × QS} (w : q_Wire S) (hp : q_pok p) (aR : q_aR S p) (h : fX6_outcomeOf_97 S p y2 y3 = some r) (hQ : Q (some (.int r.1)) r.2) : q_L g mX6_outcomeOf 7 0 0 Q 0 0 97 [(0, .ref 89), (2, .int y2), (3, .int y3)] [] S := by
  obtain ⟨c, hc⟩ := q_run_it h
  exact lX6_outcomeOf_97 hp hQ c (y3, S) w aR hc
set_option maxRecDepth 20000 in
theorem kX6_outcomeOf {S : QS} {g : QG} {Q : Option Value → QS → Prop} {p : Nat} {x2 : Int32} {r : Int32 × QS} (w : q_Wire S) (hp : q_pok p) (h : fX6_outcomeOf S p x2 = some r) (hQ : Q (some (.int r.1)) r.2) : q_M g mX6_outcomeOf 7 0 0 [.ref 89, .ref p, .int x2] S Q := by
  unfold fX6_outcomeOf at h
  show q_L g mX6_outcomeOf 7 0 0 Q 0 0 0 [(0, .ref 89), (1, .ref p), (2, .int x2)] [] S
  refine q_aload_n 0 rfl rfl dX6_outcomeOf_0 ?_
  refine q_aload_n 1 rfl rfl dX6_outcomeOf_1 ?_
  refine q_putR (q_sh89 w) (by decide) (by decide) rfl rfl lfX6_45 dX6_outcomeOf_2 ?_
  obtain ⟨S26, e27, h⟩ := q_bindS h
  refine q_st e27 ?_
  have w29 : q_Wire S26 := e27 ▸ q_Wire.sR w (by decide)
  refine q_aload_n 0 rfl rfl dX6_outcomeOf_5 ?_
  refine q_aload_n 1 rfl rfl dX6_outcomeOf_6 ?_
  refine q_getRN (q_shP0 w29 hp) (by decide) (by decide) rfl lfX6_49 dX6_outcomeOf_7 (r := (p + 10)) (q_wrP0_1 w29 hp) ?_
  refine q_putR (q_sh89 w29) (by decide) (by decide) rfl rfl lfX6_55 dX6_outcomeOf_10 ?_
  obtain ⟨S30, e31, h⟩ := q_bindS h
  refine q_st e31 ?_
  have w33 : q_Wire S30 := e31 ▸ q_Wire.sR w29 (by decide)
  have aR1 : q_aR S30 p := by rw [← e31]; rw [← e27]; simp [q_aR, q_sR, va_up]
  refine q_aload_n 0 rfl rfl dX6_outcomeOf_13 ?_
  refine q_getR (q_sh89 w33) (by decide) (by decide) rfl lfX6_12 dX6_outcomeOf_14 (r := 90) (q_wr89_2 w33) ?_
  obtain ⟨r34, e35, h⟩ := q_bind h
  refine q_callV (ci := 2) (d := 6) (Mc := mX2_begin) (kc := 0) (nc := 0) [] okX2_begin (q_sh90 w33) (by decide) rfl lmX6_59 inX2_begin seX2_begin rfl (Nat.le_of_ble_eq_true rfl) (Nat.le_of_ble_eq_true rfl) (Nat.le_refl _) (Nat.le_refl _) dX6_outcomeOf_17 (q_L.deep (by decide) (kX2_begin (Q := fun r S' => r = none ∧ S' = r34) w33 e35 ⟨rfl, rfl⟩)) (q_kV ?_)
  have fx36 : q_Fx S30 r34 := q_Fx.tr (q_Fx.rf S30) (fxX2_begin e35)
  refine q_aload_n 0 rfl rfl dX6_outcomeOf_20 ?_
  refine q_iconst (v := (0 : Int32)) (by decide) dX6_outcomeOf_21 ?_
  refine q_putI (q_sh89 (w33.fx fx36)) (by decide) (by decide) rfl rfl ⟨rfl, rfl⟩ lfX6_62 dX6_outcomeOf_22 ?_
  obtain ⟨S37, e38, h⟩ := q_bindS h
  refine q_st e38 ?_
  have fx39 : q_Fx S30 S37 := e38 ▸ q_Fx.sI (fx36)
  refine q_aload_n 0 rfl rfl dX6_outcomeOf_25 ?_
  refine q_iconst (v := (0 : Int32)) (by decide) dX6_outcomeOf_26 ?_
  refine q_putI (q_sh89 (w33.fx fx39)) (by decide) (by decide) rfl rfl ⟨rfl, rfl⟩ lfX6_65 dX6_outcomeOf_27 ?_
  obtain ⟨S40, e41, h⟩ := q_bindS h
  refine q_st e41 ?_
  have fx42 : q_Fx S30 S40 := e41 ▸ q_Fx.sI (fx39)
  refine q_aload_n 0 rfl rfl dX6_outcomeOf_30 ?_
  refine q_iconst (v := (0 : Int32)) (by decide) dX6_outcomeOf_31 ?_
  refine q_putI (q_sh89 (w33.fx fx42)) (by decide) (by decide) rfl rfl ⟨rfl, rfl⟩ lfX6_68 dX6_outcomeOf_32 ?_
  obtain ⟨S43, e44, h⟩ := q_bindS h
  refine q_st e44 ?_
  have fx45 : q_Fx S30 S43 := e44 ▸ q_Fx.sI (fx42)
  refine q_aload_n 0 rfl rfl dX6_outcomeOf_35 ?_
  refine q_iconst (v := (-1 : Int32)) (by decide) dX6_outcomeOf_36 ?_
  refine q_putI (q_sh89 (w33.fx fx45)) (by decide) (by decide) rfl rfl ⟨rfl, rfl⟩ lfX6_42 dX6_outcomeOf_37 ?_
  obtain ⟨S46, e47, h⟩ := q_bindS h
  refine q_st e47 ?_
  have fx48 : q_Fx S30 S46 := e47 ▸ q_Fx.sI (fx45)
  refine q_aload_n 0 rfl rfl dX6_outcomeOf_40 ?_
  refine q_iconst (v := (-1 : Int32)) (by decide) dX6_outcomeOf_41 ?_
  refine q_putI (q_sh89 (w33.fx fx48)) (by decide) (by decide) rfl rfl ⟨rfl, rfl⟩ lfX6_71 dX6_outcomeOf_42 ?_
  obtain ⟨S49, e50, h⟩ := q_bindS h
  refine q_st e50 ?_
  have fx51 : q_Fx S30 S49 := e50 ▸ q_Fx.sI (fx48)
  refine q_aload_n 0 rfl rfl dX6_outcomeOf_45 ?_
  refine q_iconst (v := (0 : Int32)) (by decide) dX6_outcomeOf_46 ?_
  refine q_putI (q_sh89 (w33.fx fx51)) (by decide) (by decide) rfl rfl ⟨rfl, rfl⟩ lfX6_74 dX6_outcomeOf_47 ?_
  obtain ⟨S52, e53, h⟩ := q_bindS h
  refine q_st e53 ?_
  have fx54 : q_Fx S30 S52 := e53 ▸ q_Fx.sI (fx51)
  refine q_aload_n 0 rfl rfl dX6_outcomeOf_50 ?_
  refine q_iconst (v := (0 : Int32)) (by decide) dX6_outcomeOf_51 ?_
  refine q_putI (q_sh89 (w33.fx fx54)) (by decide) (by decide) rfl rfl ⟨rfl, rfl⟩ lfX6_77 dX6_outcomeOf_52 ?_
  obtain ⟨S55, e56, h⟩ := q_bindS h
  refine q_st e56 ?_
  have fx57 : q_Fx S30 S55 := e56 ▸ q_Fx.sI (fx54)
  refine q_aload_n 0 rfl rfl dX6_outcomeOf_55 ?_
  refine q_getR (q_sh89 (w33.fx fx57)) (by decide) (by decide) rfl lfX6_22 dX6_outcomeOf_56 (r := 97) (q_wr89_4 (w33.fx fx57)) ?_
  refine q_iconst (v := (0 : Int32)) (by decide) dX6_outcomeOf_59 ?_
  refine q_bipush (v := (12 : Int32)) (by decide) dX6_outcomeOf_60 ?_
  refine q_bipush (v := (67 : Int32)) (by decide) dX6_outcomeOf_62 ?_
  obtain ⟨r58, e59, h⟩ := q_bind h
  refine q_callS (d := 6) (Mc := mJ7_fill_eb02e) (kc := 0) (nc := 0) [.ref 97, .int (0 : Int32), .int (12 : Int32), .int (67 : Int32)] okJ7_fill_eb02e lmX6_80 inJ7_fill_eb02e rfl (Nat.le_of_ble_eq_true rfl) (Nat.le_of_ble_eq_true rfl) (Nat.le_refl _) (Nat.le_refl _) dX6_outcomeOf_64 (q_L.deep (by decide) (kJ7_fill_eb02e (Q := fun r S' => r = none ∧ S' = r58) (w33.fx fx57) (q_sh97 (w33.fx fx57)) e59 ⟨rfl, rfl⟩)) (q_kV ?_)
  have fx60 : q_Fx S30 r58 := q_Fx.tr (fx57) (fxJ7_fill_eb02e e59)
  refine q_aload_n 0 rfl rfl dX6_outcomeOf_67 ?_
  refine q_getR (q_sh89 (w33.fx fx60)) (by decide) (by decide) rfl lfX6_29 dX6_outcomeOf_68 (r := 99) (q_wr89_6 (w33.fx fx60)) ?_
  refine q_iconst (v := (0 : Int32)) (by decide) dX6_outcomeOf_71 ?_
  refine q_iconst (v := (0 : Int32)) (by decide) dX6_outcomeOf_72 ?_
  obtain ⟨hg61, h⟩ := q_guard h
  refine q_iast (q_sh99 (w33.fx fx60)) (q_inb_in hg61) dX6_outcomeOf_73 ?_
  obtain ⟨S62, e63, h⟩ := q_bindS h
  refine q_st e63 ?_
  have fx64 : q_Fx S30 S62 := e63 ▸ q_Fx.sI (fx60)
  refine q_aload_n 0 rfl rfl dX6_outcomeOf_74 ?_
  refine q_getR (q_sh89 (w33.fx fx64)) (by decide) (by decide) rfl lfX6_26 dX6_outcomeOf_75 (r := 98) (q_wr89_5 (w33.fx fx64)) ?_
  refine q_iconst (v := (0 : Int32)) (by decide) dX6_outcomeOf_78 ?_
  refine q_aload_n 0 rfl rfl dX6_outcomeOf_79 ?_
  refine q_getR (q_sh89 (w33.fx fx64)) (by decide) (by decide) rfl lfX6_45 dX6_outcomeOf_80 (r := p) (aR1.fx fx64).1 ?_
  refine q_getRN (q_shP0 (w33.fx fx64) hp) (by decide) (by decide) rfl lfX6_86 dX6_outcomeOf_83 (r := (p + 29)) (q_wrP0_10 (w33.fx fx64) hp) ?_
  refine q_aload_n 0 rfl rfl dX6_outcomeOf_86 ?_
  refine q_getR (q_sh89 (w33.fx fx64)) (by decide) (by decide) rfl lfX6_45 dX6_outcomeOf_87 (r := p) (aR1.fx fx64).1 ?_
  refine q_getIN (q_shP0 (w33.fx fx64) hp) (by decide) (by decide) rfl lfX6_89 dX6_outcomeOf_90 ?_
  obtain ⟨hg65, h⟩ := q_guard h
  refine q_iald (q_shP29 (w33.fx fx64) hp) (q_inb_in hg65) dX6_outcomeOf_93 ?_
  obtain ⟨hg66, h⟩ := q_guard h
  refine q_iast (q_sh98 (w33.fx fx64)) (q_inb_in hg66) dX6_outcomeOf_94 ?_
  obtain ⟨S67, e68, h⟩ := q_bindS h
  refine q_st e68 ?_
  have fx69 : q_Fx S30 S67 := e68 ▸ q_Fx.sI (fx64)
  refine q_iconst (v := (0 : Int32)) (by decide) dX6_outcomeOf_95 ?_
  refine q_istore_n [(3, .int (0 : Int32)), (0, .ref 89), (1, .ref p), (2, .int x2)] rfl (by decide) rfl dX6_outcomeOf_96 ?_
  refine q_sub [1, 3, 0] rfl ?_
  exact kX6_outcomeOf_97 (w33.fx fx69) hp (aR1.fx fx69) h hQ
