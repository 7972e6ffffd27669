set_option maxRecDepth 20000 in
theorem kX5_begin {S : QS} {g : QG} {Q : Option Value → QS → Prop} {p : Nat}  {r : QS} (w : q_Wire S) (hp : q_pok p) (h : fX5_begin S p = some r) (hQ : Q none r) : q_M g mX5_begin 2 0 0 [.ref p] S Q := by
  unfold fX5_begin at h
  show q_L g mX5_begin 2 0 0 Q 0 0 0 [(0, .ref p)] [] S
  refine q_aload_n 0 rfl rfl dX5_begin_0 ?_
  refine q_getR (q_shP0 w hp) (by decide) (by decide) rfl lfX5_12 dX5_begin_1 (r := (p + 1)) (q_wrP0_0 w hp) ?_
  obtain ⟨r1, e2, h⟩ := q_bind h
  refine q_callV (ci := 0) (d := 1) (Mc := mX0_begin) (kc := 0) (nc := 0) [] okX0_begin (q_shP1 w hp) (by decide) rfl lmX5_66 inX0_begin seX0_begin rfl (Nat.le_of_ble_eq_true rfl) (Nat.le_of_ble_eq_true rfl) (Nat.le_refl _) (Nat.le_refl _) dX5_begin_4 (q_L.deep (by decide) (kX0_begin (Q := fun r S' => r = none ∧ S' = r1) w hp e2 ⟨rfl, rfl⟩)) (q_kV ?_)
  have fx3 : q_Fx S r1 := q_Fx.tr (q_Fx.rf S) (fxX0_begin e2)
  refine q_aload_n 0 rfl rfl dX5_begin_7 ?_
  refine q_getR (q_shP0 (w.fx fx3) hp) (by decide) (by decide) rfl lfX5_21 dX5_begin_8 (r := (p + 10)) (q_wrP0_1 (w.fx fx3) hp) ?_
  obtain ⟨r4, e5, h⟩ := q_bind h
  refine q_callV (ci := 1) (d := 1) (Mc := mX1_begin) (kc := 0) (nc := 0) [] okX1_begin (q_shP10 (w.fx fx3) hp) (by decide) rfl lmX5_69 inX1_begin seX1_begin rfl (Nat.le_of_ble_eq_true rfl) (Nat.le_of_ble_eq_true rfl) (Nat.le_refl _) (Nat.le_refl _) dX5_begin_11 (q_L.deep (by decide) (kX1_begin (Q := fun r S' => r = none ∧ S' = r4) (w.fx fx3) hp e5 ⟨rfl, rfl⟩)) (q_kV ?_)
  have fx6 : q_Fx S r4 := q_Fx.tr (fx3) (fxX1_begin e5)
  refine q_aload_n 0 rfl rfl dX5_begin_14 ?_
  refine q_iconst (v := (0 : Int32)) (by decide) dX5_begin_15 ?_
  refine q_putI (q_shP0 (w.fx fx6) hp) (by decide) (by decide) rfl rfl ⟨rfl, rfl⟩ lfX5_70 dX5_begin_16 ?_
  obtain ⟨S7, e8, h⟩ := q_bindS h
  refine q_st e8 ?_
  have fx9 : q_Fx S S7 := e8 ▸ q_Fx.sI (fx6)
  refine q_aload_n 0 rfl rfl dX5_begin_19 ?_
  refine q_iconst (v := (0 : Int32)) (by decide) dX5_begin_20 ?_
  refine q_putI (q_shP0 (w.fx fx9) hp) (by decide) (by decide) rfl rfl ⟨rfl, rfl⟩ lfX5_74 dX5_begin_21 ?_
  obtain ⟨S10, e11, h⟩ := q_bindS h
  refine q_st e11 ?_
  have fx12 : q_Fx S S10 := e11 ▸ q_Fx.sI (fx9)
  refine q_aload_n 0 rfl rfl dX5_begin_24 ?_
  refine q_getR (q_shP0 (w.fx fx12) hp) (by decide) (by decide) rfl lfX5_63 dX5_begin_25 (r := (p + 34)) (q_wrP0_15 (w.fx fx12) hp) ?_
  refine q_iconst (v := (-1 : Int32)) (by decide) dX5_begin_28 ?_
  obtain ⟨r13, e14, h⟩ := q_bind h
  refine q_callS (d := 1) (Mc := mJ7_fill_53178) (kc := 0) (nc := 0) [.ref (p + 34), .int (-1 : Int32)] okJ7_fill_53178 lmX5_77 inJ7_fill_53178 rfl (Nat.le_of_ble_eq_true rfl) (Nat.le_of_ble_eq_true rfl) (Nat.le_refl _) (Nat.le_refl _) dX5_begin_29 (q_L.deep (by decide) (kJ7_fill_53178 (Q := fun r S' => r = none ∧ S' = r13) (w.fx fx12) (q_shP34 (w.fx fx12) hp) e14 ⟨rfl, rfl⟩)) (q_kV ?_)
  have fx15 : q_Fx S r13 := q_Fx.tr (fx12) (fxJ7_fill_53178 e14)
  obtain rfl := Option.some.inj h
  exact q_vret rfl dX5_begin_32 hQ
set_option maxRecDepth 20000 in
theorem kX5_inherit {S : QS} {g : QG} {Q : Option Value → QS → Prop} {p : Nat} {x1 : Int32} {r : QS} (w : q_Wire S) (hp : q_pok p) (h : fX5_inherit S p x1 = some r) (hQ : Q none r) : q_M g mX5_inherit 1 0 0 [.ref p, .int x1] S Q := by
  unfold fX5_inherit at h
  show q_L g mX5_inherit 1 0 0 Q 0 0 0 [(0, .ref p), (1, .int x1)] [] S
  refine q_iload_n 1 rfl rfl dX5_inherit_0 ?_
  refine q_if_le 15 (by decide) dX5_inherit_1 (fun c => ?_) (fun c => ?_)
  · rw [if_pos c] at h
    obtain rfl := Option.some.inj h
    exact q_vret rfl dX5_inherit_15 hQ
  · rw [if_neg c] at h
    refine q_iload_n 1 rfl rfl dX5_inherit_4 ?_
    refine q_aload_n 0 rfl rfl dX5_inherit_5 ?_
    refine q_getR (q_shP0 w hp) (by decide) (by decide) rfl lfX5_12 dX5_inherit_6 (r := (p + 1)) (q_wrP0_0 w hp) ?_
    refine q_getIN (q_shP1 w hp) (by decide) (by decide) rfl lfX5_83 dX5_inherit_9 ?_
    refine q_icmp_lt 16 (by decide) dX5_inherit_12 (fun c => ?_) (fun c => ?_)
    · rw [if_pos c] at h
      refine q_aload_n 0 rfl rfl dX5_inherit_16 ?_
      refine q_getR (q_shP0 w hp) (by decide) (by decide) rfl lfX5_12 dX5_inherit_17 (r := (p + 1)) (q_wrP0_0 w hp) ?_
      refine q_getRN (q_shP1 w hp) (by decide) (by decide) rfl lfX5_86 dX5_inherit_20 (r := (p + 3)) (q_wrP1_2 w hp) ?_
      refine q_iload_n 1 rfl rfl dX5_inherit_23 ?_
      obtain ⟨hg1, h⟩ := q_guard h
      refine q_iald (q_shP3 w hp) (q_inb_in hg1) dX5_inherit_24 ?_
      refine q_istore_n [(2, .int (S.2.1 (p + 3) x1.toNatClampNeg)), (0, .ref p), (1, .int x1)] rfl (by decide) rfl dX5_inherit_25 ?_
      refine q_iload_n 0 rfl rfl dX5_inherit_26 ?_
      refine q_if_lt 69 (by decide) dX5_inherit_27 (fun c => ?_) (fun c => ?_)
      · rw [if_pos c] at h
        obtain rfl := Option.some.inj h
        exact q_vret rfl dX5_inherit_69 hQ
      · rw [if_neg c] at h
        refine q_aload_n 1 rfl rfl dX5_inherit_30 ?_
        refine q_getR (q_shP0 w hp) (by decide) (by decide) rfl lfX5_12 dX5_inherit_31 (r := (p + 1)) (q_wrP0_0 w hp) ?_
        refine q_getRN (q_shP1 w hp) (by decide) (by decide) rfl lfX5_89 dX5_inherit_34 (r := (p + 5)) (q_wrP1_4 w hp) ?_
        refine q_iload_n 2 rfl rfl dX5_inherit_37 ?_
        refine q_aload_n 1 rfl rfl dX5_inherit_38 ?_
        refine q_getR (q_shP0 w hp) (by decide) (by decide) rfl lfX5_12 dX5_inherit_39 (r := (p + 1)) (q_wrP0_0 w hp) ?_
        refine q_getRN (q_shP1 w hp) (by decide) (by decide) rfl lfX5_89 dX5_inherit_42 (r := (p + 5)) (q_wrP1_4 w hp) ?_
        refine q_iload_n 0 rfl rfl dX5_inherit_45 ?_
        obtain ⟨hg2, h⟩ := q_guard h
        refine q_iald (q_shP5 w hp) (q_inb_in hg2) dX5_inherit_46 ?_
        obtain ⟨hg3, h⟩ := q_guard h
        refine q_iast (q_shP5 w hp) (q_inb_in hg3) dX5_inherit_47 ?_
        obtain ⟨S4, e5, h⟩ := q_bindS h
        refine q_st e5 ?_
        have fx6 : q_Fx S S4 := e5 ▸ q_Fx.sI (q_Fx.rf S)
        refine q_aload_n 1 rfl rfl dX5_inherit_48 ?_
        refine q_getR (q_shP0 (w.fx fx6) hp) (by decide) (by decide) rfl lfX5_63 dX5_inherit_49 (r := (p + 34)) (q_wrP0_15 (w.fx fx6) hp) ?_
        refine q_iload_n 0 rfl rfl dX5_inherit_52 ?_
        refine q_bipush (v := (48 : Int32)) (by decide) dX5_inherit_53 ?_
        refine q_imul dX5_inherit_55 ?_
        refine q_aload_n 1 rfl rfl dX5_inherit_56 ?_
        refine q_getR (q_shP0 (w.fx fx6) hp) (by decide) (by decide) rfl lfX5_63 dX5_inherit_57 (r := (p + 34)) (q_wrP0_15 (w.fx fx6) hp) ?_
        refine q_iload_n 2 rfl rfl dX5_inherit_60 ?_
        refine q_bipush (v := (48 : Int32)) (by decide) dX5_inherit_61 ?_
        refine q_imul dX5_inherit_63 ?_
        refine q_bipush (v := (48 : Int32)) (by decide) dX5_inherit_64 ?_
        obtain ⟨hg7, h⟩ := q_guard h
        obtain ⟨k1, k2, k3, k4, k5, k6⟩ := q_cpok_of hg7
        refine q_copy (by decide) (by decide) (q_shP34 (w.fx fx6) hp) (q_shP34 (w.fx fx6) hp) k1 k2 k3 k4 k5 k6 lmX5_92 q_acn q_acs q_aci (Nat.le_of_ble_eq_true rfl) dX5_inherit_66 ?_
        obtain ⟨S8, e9, h⟩ := q_bindS h
        refine q_st e9 ?_
        have fx10 : q_Fx S S8 := e9 ▸ q_Fx.cp (fx6)
        obtain rfl := Option.some.inj h
        exact q_vret rfl dX5_inherit_69 hQ
    · rw [if_neg c] at h
      obtain rfl := Option.some.inj h
      exact q_vret rfl dX5_inherit_15 hQ
set_option maxRecDepth 20000 in
theorem kX5_addParameter {S : QS} {g : QG} {Q : Option Value → QS → Prop} {p : Nat} {x1 : Int32} {x2 : Int32} {r : QS} (w : q_Wire S) (hp : q_pok p) (h : fX5_addParameter S p x1 x2 = some r) (hQ : Q none r) : q_M g mX5_addParameter 0 0 0 [.ref p, .int x1, .int x2] S Q := by
  unfold fX5_addParameter at h
  show q_L g mX5_addParameter 0 0 0 Q 0 0 0 [(0, .ref p), (1, .int x1), (2, .int x2)] [] S
  refine q_aload_n 0 rfl rfl dX5_addParameter_0 ?_
  refine q_getR (q_shP0 w hp) (by decide) (by decide) rfl lfX5_36 dX5_addParameter_1 (r := (p + 25)) (q_wrP0_6 w hp) ?_
  refine q_iload_n 1 rfl rfl dX5_addParameter_4 ?_
  obtain ⟨hg1, h⟩ := q_guard h
  refine q_iald (q_shP25 w hp) (q_inb_in hg1) dX5_addParameter_5 ?_
  refine q_bipush (v := (12 : Int32)) (by decide) dX5_addParameter_6 ?_
  obtain ⟨v7, hv, h⟩ := q_bind h
  have fx8 : q_Fx S v7 := by
    replace h := hv
    by_cases c : (12 : Int32) ≤ (S.2.1 (p + 25) x1.toNatClampNeg)
    · rw [if_pos c] at h
      obtain rfl := Option.some.inj h
      exact q_Fx.rf _
    · rw [if_neg c] at h
      obtain ⟨hg2, h⟩ := q_guard h
      obtain ⟨hg3, h⟩ := q_guard h
      obtain ⟨S4, e5, h⟩ := q_bindS h
      have fx6 : q_Fx S S4 := e5 ▸ q_Fx.sI (q_Fx.rf S)
      obtain rfl := Option.some.inj h
      exact fx6
  have K1 : q_L g mX5_addParameter 0 0 0 Q 0 0 28 [(0, .ref p), (1, .int x1)] [] v7 := by
    refine q_aload_n 0 rfl rfl dX5_addParameter_28 ?_
    refine q_getR (q_shP0 (w.fx fx8) hp) (by decide) (by decide) rfl lfX5_36 dX5_addParameter_29 (r := (p + 25)) (q_wrP0_6 (w.fx fx8) hp) ?_
    refine q_iload_n 1 rfl rfl dX5_addParameter_32 ?_
    refine q_dup2 rfl rfl dX5_addParameter_33 ?_
    obtain ⟨hg9, h⟩ := q_guard h
    refine q_iald (q_shP25 (w.fx fx8) hp) (q_inb_in hg9) dX5_addParameter_34 ?_
    refine q_iconst (v := (1 : Int32)) (by decide) dX5_addParameter_35 ?_
    refine q_iadd dX5_addParameter_36 ?_
    obtain ⟨hg10, h⟩ := q_guard h
    refine q_iast (q_shP25 (w.fx fx8) hp) (q_inb_in hg10) dX5_addParameter_37 ?_
    obtain ⟨S11, e12, h⟩ := q_bindS h
    refine q_st e12 ?_
    have fx13 : q_Fx S S11 := e12 ▸ q_Fx.sI (fx8)
    obtain rfl := Option.some.inj h
    exact q_vret rfl dX5_addParameter_38 hQ
  replace h := hv
  refine q_icmp_ge 28 (by decide) dX5_addParameter_8 (fun c => ?_) (fun c => ?_)
  · rw [if_pos c] at h
    obtain rfl := Option.some.inj h
    refine q_sub [0, 1] rfl ?_
    exact K1
  · rw [if_neg c] at h
    refine q_aload_n 0 rfl rfl dX5_addParameter_11 ?_
    refine q_getR (q_shP0 w hp) (by decide) (by decide) rfl lfX5_39 dX5_addParameter_12 (r := (p + 26)) (q_wrP0_7 w hp) ?_
    refine q_iload_n 1 rfl rfl dX5_addParameter_15 ?_
    refine q_bipush (v := (12 : Int32)) (by decide) dX5_addParameter_16 ?_
    refine q_imul dX5_addParameter_18 ?_
    refine q_aload_n 0 rfl rfl dX5_addParameter_19 ?_
    refine q_getR (q_shP0 w hp) (by decide) (by decide) rfl lfX5_36 dX5_addParameter_20 (r := (p + 25)) (q_wrP0_6 w hp) ?_
    refine q_iload_n 1 rfl rfl dX5_addParameter_23 ?_
    obtain ⟨hg2, h⟩ := q_guard h
    refine q_iald (q_shP25 w hp) (q_inb_in hg2) dX5_addParameter_24 ?_
    refine q_iadd dX5_addParameter_25 ?_
    refine q_iload_n 2 rfl rfl dX5_addParameter_26 ?_
    obtain ⟨hg3, h⟩ := q_guard h
    refine q_iast (q_shP26 w hp) (q_inb_in hg3) dX5_addParameter_27 ?_
    obtain ⟨S4, e5, h⟩ := q_bindS h
    refine q_st e5 ?_
    have fx6 : q_Fx S S4 := e5 ▸ q_Fx.sI (q_Fx.rf S)
    obtain rfl := Option.some.inj h
    refine q_sub [0, 1] rfl ?_
    exact K1
set_option maxRecDepth 20000 in
theorem kX5_addBody {S : QS} {g : QG} {Q : Option Value → QS → Prop} {p : Nat} {x1 : Int32} {x2 : Int32} {x3 : Bool} {x4 : Int32} {r : QS} (w : q_Wire S) (hp : q_pok p) (h : fX5_addBody S p x1 x2 x3 x4 = some r) (hQ : Q none r) : q_M g mX5_addBody 1 0 0 [.ref p, .int x1, .int x2, .int (q_b x3), .int x4] S Q := by
  unfold fX5_addBody at h
  show q_L g mX5_addBody 1 0 0 Q 0 0 0 [(0, .ref p), (1, .int x1), (2, .int x2), (3, .int (q_b x3)), (4, .int x4)] [] S
  refine q_aload_n 0 rfl rfl dX5_addBody_0 ?_
  refine q_getI (q_shP0 w hp) (by decide) (by decide) rfl lfX5_70 dX5_addBody_1 ?_
  refine q_istore [(5, .int (S.2.1 p 2)), (0, .ref p), (1, .int x1), (2, .int x2), (3, .int (q_b x3)), (4, .int x4)] (by decide) rfl dX5_addBody_4 ?_
  refine q_iload 0 rfl dX5_addBody_6 ?_
  refine q_bipush (v := (48 : Int32)) (by decide) dX5_addBody_8 ?_
  refine q_icmp_ge 24 (by decide) dX5_addBody_10 (fun c => ?_) (fun c => ?_)
  · rw [if_pos c] at h
    obtain rfl := Option.some.inj h
    exact q_vret rfl dX5_addBody_24 hQ
  · rw [if_neg c] at h
    refine q_aload_n 1 rfl rfl dX5_addBody_13 ?_
    refine q_getR (q_shP0 w hp) (by decide) (by decide) rfl lfX5_12 dX5_addBody_14 (r := (p + 1)) (q_wrP0_0 w hp) ?_
    refine q_iload_n 2 rfl rfl dX5_addBody_17 ?_
    obtain ⟨r1, e2, h⟩ := q_bind h
    refine q_callV (ci := 0) (d := 0) (Mc := mX0_isClass) (kc := 0) (nc := 0) [.int x1] okX0_isClass (q_shP1 w hp) (by decide) rfl lmX5_98 inX0_isClass seX0_isClass rfl (Nat.le_of_ble_eq_true rfl) (Nat.le_of_ble_eq_true rfl) (Nat.le_refl _) (Nat.le_refl _) dX5_addBody_18 (q_L.deep (by decide) (kX0_isClass (Q := fun r S' => r = some (.int (q_b r1)) ∧ S' = S) w hp e2 ⟨rfl, rfl⟩)) (q_kI ?_)
    refine q_if_ne 25 (by decide) dX5_addBody_21 (fun c => ?_) (fun c => ?_)
    · have c := q_b_n.mp c; rw [q_if1 c] at h
      refine q_aload_n 1 rfl rfl dX5_addBody_25 ?_
      refine q_dup rfl dX5_addBody_26 ?_
      refine q_getI (q_shP0 w hp) (by decide) (by decide) rfl lfX5_70 dX5_addBody_27 ?_
      refine q_iconst (v := (1 : Int32)) (by decide) dX5_addBody_30 ?_
      refine q_iadd dX5_addBody_31 ?_
      refine q_putI (q_shP0 w hp) (by decide) (by decide) rfl rfl ⟨rfl, rfl⟩ lfX5_70 dX5_addBody_32 ?_
      obtain ⟨S3, e4, h⟩ := q_bindS h
      refine q_st e4 ?_
      have fx5 : q_Fx S S3 := e4 ▸ q_Fx.sI (q_Fx.rf S)
      refine q_aload_n 1 rfl rfl dX5_addBody_35 ?_
      refine q_getR (q_shP0 (w.fx fx5) hp) (by decide) (by decide) rfl lfX5_25 dX5_addBody_36 (r := (p + 22)) (q_wrP0_3 (w.fx fx5) hp) ?_
      refine q_iload 0 rfl dX5_addBody_39 ?_
      refine q_iload_n 3 rfl rfl dX5_addBody_41 ?_
      obtain ⟨hg6, h⟩ := q_guard h
      refine q_iast (q_shP22 (w.fx fx5) hp) (q_inb_in hg6) dX5_addBody_42 ?_
      obtain ⟨S7, e8, h⟩ := q_bindS h
      refine q_st e8 ?_
      have fx9 : q_Fx S S7 := e8 ▸ q_Fx.sI (fx5)
      refine q_aload_n 1 rfl rfl dX5_addBody_43 ?_
      refine q_getR (q_shP0 (w.fx fx9) hp) (by decide) (by decide) rfl lfX5_29 dX5_addBody_44 (r := (p + 23)) (q_wrP0_4 (w.fx fx9) hp) ?_
      refine q_iload 0 rfl dX5_addBody_47 ?_
      refine q_iload_n 2 rfl rfl dX5_addBody_49 ?_
      obtain ⟨hg10, h⟩ := q_guard h
      refine q_iast (q_shP23 (w.fx fx9) hp) (q_inb_in hg10) dX5_addBody_50 ?_
      obtain ⟨S11, e12, h⟩ := q_bindS h
      refine q_st e12 ?_
      have fx13 : q_Fx S S11 := e12 ▸ q_Fx.sI (fx9)
      refine q_aload_n 1 rfl rfl dX5_addBody_51 ?_
      refine q_getR (q_shP0 (w.fx fx13) hp) (by decide) (by decide) rfl lfX5_32 dX5_addBody_52 (r := (p + 24)) (q_wrP0_5 (w.fx fx13) hp) ?_
      refine q_iload 0 rfl dX5_addBody_55 ?_
      refine q_iload_n 4 rfl rfl dX5_addBody_57 ?_
      obtain ⟨hg14, h⟩ := q_guard h
      refine q_zast (q_shP24 (w.fx fx13) hp) (q_inb_in hg14) dX5_addBody_58 ?_
      obtain ⟨S15, e16, h⟩ := q_bindS h
      refine q_st e16 ?_
      have fx17 : q_Fx S S15 := e16 ▸ q_Fx.sI (fx13)
      refine q_aload_n 1 rfl rfl dX5_addBody_59 ?_
      refine q_getR (q_shP0 (w.fx fx17) hp) (by decide) (by decide) rfl lfX5_36 dX5_addBody_60 (r := (p + 25)) (q_wrP0_6 (w.fx fx17) hp) ?_
      refine q_iload 0 rfl dX5_addBody_63 ?_
      refine q_iconst (v := (0 : Int32)) (by decide) dX5_addBody_65 ?_
      obtain ⟨hg18, h⟩ := q_guard h
      refine q_iast (q_shP25 (w.fx fx17) hp) (q_inb_in hg18) dX5_addBody_66 ?_
      obtain ⟨S19, e20, h⟩ := q_bindS h
      refine q_st e20 ?_
      have fx21 : q_Fx S S19 := e20 ▸ q_Fx.sI (fx17)
      refine q_aload_n 1 rfl rfl dX5_addBody_67 ?_
      refine q_getR (q_shP0 (w.fx fx21) hp) (by decide) (by decide) rfl lfX5_60 dX5_addBody_68 (r := (p + 33)) (q_wrP0_14 (w.fx fx21) hp) ?_
      refine q_iload 0 rfl dX5_addBody_71 ?_
      refine q_iload 5 rfl dX5_addBody_73 ?_
      refine q_iconst (v := (-1 : Int32)) (by decide) dX5_addBody_75 ?_
      obtain ⟨v23, hv, h⟩ := q_bind h
      have K1 : q_L g mX5_addBody 1 0 0 Q 0 0 91 [(0, .ref p), (1, .int x1), (3, .int (q_b x3)), (5, .int (S.2.1 p 2))] [.int v23, .int (S.2.1 p 2), .ref (p + 33)] S19 := by
        obtain ⟨hg24, h⟩ := q_guard h
        refine q_iast (q_shP33 (w.fx fx21) hp) (q_inb_in hg24) dX5_addBody_91 ?_
        obtain ⟨S25, e26, h⟩ := q_bindS h
        refine q_st e26 ?_
        have fx27 : q_Fx S S25 := e26 ▸ q_Fx.sI (fx21)
        refine q_iload_n 2 rfl rfl dX5_addBody_92 ?_
        refine q_if_eq 122 (by decide) dX5_addBody_93 (fun c => ?_) (fun c => ?_)
        · have c := q_b_0.mp c; rw [q_if0 c] at h
          obtain rfl := Option.some.inj h
          exact q_vret rfl dX5_addBody_122 hQ
        · have c := q_b_n.mp c; rw [q_if1 c] at h
          refine q_aload_n 0 rfl rfl dX5_addBody_96 ?_
          refine q_iload 3 rfl dX5_addBody_97 ?_
          refine q_iload_n 1 rfl rfl dX5_addBody_99 ?_
          obtain ⟨r28, e29, h⟩ := q_bind h
          refine q_callV (ci := 5) (d := 0) (Mc := mX5_addParameter) (kc := 0) (nc := 0) [.int (S.2.1 p 2), .int x1] okX5_addParameter (q_shP0 (w.fx fx27) hp) (by decide) rfl lmX5_102 inX5_addParameter seX5_addParameter rfl (Nat.le_of_ble_eq_true rfl) (Nat.le_of_ble_eq_true rfl) (Nat.le_refl _) (Nat.le_refl _) dX5_addBody_100 (q_L.deep (by decide) (kX5_addParameter (Q := fun r S' => r = none ∧ S' = r28) (w.fx fx27) hp e29 ⟨rfl, rfl⟩)) (q_kV ?_)
          have fx30 : q_Fx S r28 := q_Fx.tr (fx27) (fxX5_addParameter e29)
          refine q_aload_n 0 rfl rfl dX5_addBody_103 ?_
          refine q_getR (q_shP0 (w.fx fx30) hp) (by decide) (by decide) rfl lfX5_63 dX5_addBody_104 (r := (p + 34)) (q_wrP0_15 (w.fx fx30) hp) ?_
          refine q_iload_n 1 rfl rfl dX5_addBody_107 ?_
          refine q_bipush (v := (48 : Int32)) (by decide) dX5_addBody_108 ?_
          refine q_imul dX5_addBody_110 ?_
          refine q_aload_n 0 rfl rfl dX5_addBody_111 ?_
          refine q_getR (q_shP0 (w.fx fx30) hp) (by decide) (by decide) rfl lfX5_60 dX5_addBody_112 (r := (p + 33)) (q_wrP0_14 (w.fx fx30) hp) ?_
          refine q_iload 3 rfl dX5_addBody_115 ?_
          obtain ⟨hg31, h⟩ := q_guard h
          refine q_iald (q_shP33 (w.fx fx30) hp) (q_inb_in hg31) dX5_addBody_117 ?_
          refine q_iadd dX5_addBody_118 ?_
          refine q_iload 3 rfl dX5_addBody_119 ?_
          obtain ⟨hg32, h⟩ := q_guard h
          refine q_iast (q_shP34 (w.fx fx30) hp) (q_inb_in hg32) dX5_addBody_121 ?_
          obtain ⟨S33, e34, h⟩ := q_bindS h
          refine q_st e34 ?_
          have fx35 : q_Fx S S33 := e34 ▸ q_Fx.sI (fx30)
          obtain rfl := Option.some.inj h
          exact q_vret rfl dX5_addBody_122 hQ
      replace h := hv
      refine q_icmp_ne 84 (by decide) dX5_addBody_76 (fun c => ?_) (fun c => ?_)
      · rw [if_neg c] at h
        refine q_aload_n 1 rfl rfl dX5_addBody_84 ?_
        refine q_getR (q_shP0 (w.fx fx21) hp) (by decide) (by decide) rfl lfX5_60 dX5_addBody_85 (r := (p + 33)) (q_wrP0_14 (w.fx fx21) hp) ?_
        refine q_iload 5 rfl dX5_addBody_88 ?_
        obtain ⟨hg22, h⟩ := q_guard h
        refine q_iald (q_shP33 (w.fx fx21) hp) (q_inb_in hg22) dX5_addBody_90 ?_
        obtain rfl := Option.some.inj h
        refine q_sub [1, 2, 4, 0] rfl ?_
        exact K1
      · rw [if_pos c] at h
        refine q_iload 0 rfl dX5_addBody_79 ?_
        refine q_goto 91 (by decide) dX5_addBody_81 ?_
        obtain rfl := Option.some.inj h
        refine q_sub [1, 2, 4, 0] rfl ?_
        exact K1
    · have c := q_b_0.mp c; rw [q_if0 c] at h
      obtain rfl := Option.some.inj h
      exact q_vret rfl dX5_addBody_24 hQ
set_option maxRecDepth 20000 in
theorem kX5_bodyOf {S : QS} {g : QG} {Q : Option Value → QS → Prop} {p : Nat} {x1 : Int32} {x2 : Int32} {r : Int32} (w : q_Wire S) (hp : q_pok p) (h : fX5_bodyOf S p x1 x2 = some r) (hQ : Q (some (.int r)) S) : q_M g mX5_bodyOf 1 0 0 [.ref p, .int x1, .int x2] S Q := by
  unfold fX5_bodyOf at h
  show q_L g mX5_bodyOf 1 0 0 Q 0 0 0 [(0, .ref p), (1, .int x1), (2, .int x2)] [] S
  refine q_aload_n 0 rfl rfl dX5_bodyOf_0 ?_
  refine q_getR (q_shP0 w hp) (by decide) (by decide) rfl lfX5_12 dX5_bodyOf_1 (r := (p + 1)) (q_wrP0_0 w hp) ?_
  refine q_iload_n 1 rfl rfl dX5_bodyOf_4 ?_
  obtain ⟨r1, e2, h⟩ := q_bind h
  refine q_callV (ci := 0) (d := 0) (Mc := mX0_isClass) (kc := 0) (nc := 0) [.int x1] okX0_isClass (q_shP1 w hp) (by decide) rfl lmX5_98 inX0_isClass seX0_isClass rfl (Nat.le_of_ble_eq_true rfl) (Nat.le_of_ble_eq_true rfl) (Nat.le_refl _) (Nat.le_refl _) dX5_bodyOf_5 (q_L.deep (by decide) (kX0_isClass (Q := fun r S' => r = some (.int (q_b r1)) ∧ S' = S) w hp e2 ⟨rfl, rfl⟩)) (q_kI ?_)
  obtain ⟨v4, hv, h⟩ := q_bind h
  have K1 : q_L g mX5_bodyOf 1 0 0 Q 0 0 26 [(2, .int x2)] [.int v4] S := by
    refine q_istore_n [(3, .int v4), (2, .int x2)] rfl (by decide) rfl dX5_bodyOf_26 ?_
    refine q_iload_n 0 rfl rfl dX5_bodyOf_27 ?_
    refine q_iconst (v := (-1 : Int32)) (by decide) dX5_bodyOf_28 ?_
    refine q_icmp_ne 36 (by decide) dX5_bodyOf_29 (fun c => ?_) (fun c => ?_)
    · rw [if_neg c] at h
      refine q_iload_n 0 rfl rfl dX5_bodyOf_36 ?_
      obtain rfl := Option.some.inj h
      exact q_iret rfl rfl dX5_bodyOf_37 hQ
    · rw [if_pos c] at h
      refine q_iload_n 1 rfl rfl dX5_bodyOf_32 ?_
      refine q_goto 37 (by decide) dX5_bodyOf_33 ?_
      obtain rfl := Option.some.inj h
      exact q_iret rfl rfl dX5_bodyOf_37 hQ
  replace h := hv
  refine q_if_eq 25 (by decide) dX5_bodyOf_8 (fun c => ?_) (fun c => ?_)
  · have c := q_b_0.mp c; rw [q_if0 c] at h
    refine q_iconst (v := (-1 : Int32)) (by decide) dX5_bodyOf_25 ?_
    obtain rfl := Option.some.inj h
    refine q_sub [2] rfl ?_
    exact K1
  · have c := q_b_n.mp c; rw [q_if1 c] at h
    refine q_aload_n 0 rfl rfl dX5_bodyOf_11 ?_
    refine q_getR (q_shP0 w hp) (by decide) (by decide) rfl lfX5_63 dX5_bodyOf_12 (r := (p + 34)) (q_wrP0_15 w hp) ?_
    refine q_iload_n 1 rfl rfl dX5_bodyOf_15 ?_
    refine q_bipush (v := (48 : Int32)) (by decide) dX5_bodyOf_16 ?_
    refine q_imul dX5_bodyOf_18 ?_
    refine q_iload_n 2 rfl rfl dX5_bodyOf_19 ?_
    refine q_iadd dX5_bodyOf_20 ?_
    obtain ⟨hg3, h⟩ := q_guard h
    refine q_iald (q_shP34 w hp) (q_inb_in hg3) dX5_bodyOf_21 ?_
    refine q_goto 26 (by decide) dX5_bodyOf_22 ?_
    obtain rfl := Option.some.inj h
    refine q_sub [2] rfl ?_
    exact K1
set_option maxRecDepth 20000 in
theorem kX5_takes {S : QS} {g : QG} {Q : Option Value → QS → Prop} {p : Nat} {x1 : Int32} {r : Int32} (w : q_Wire S) (hp : q_pok p) (h : fX5_takes S p x1 = some r) (hQ : Q (some (.int r)) S) : q_M g mX5_takes 0 0 0 [.ref p, .int x1] S Q := by
  unfold fX5_takes at h
  show q_L g mX5_takes 0 0 0 Q 0 0 0 [(0, .ref p), (1, .int x1)] [] S
  refine q_aload_n 0 rfl rfl dX5_takes_0 ?_
  refine q_getR (q_shP0 w hp) (by decide) (by decide) rfl lfX5_21 dX5_takes_1 (r := (p + 10)) (q_wrP0_1 w hp) ?_
  refine q_getRN (q_shP10 w hp) (by decide) (by decide) rfl lfX5_106 dX5_takes_4 (r := (p + 11)) (q_wrP10_1 w hp) ?_
  refine q_iload_n 1 rfl rfl dX5_takes_7 ?_
  obtain ⟨hg1, h⟩ := q_guard h
  refine q_iald (q_shP11 w hp) (q_inb_in hg1) dX5_takes_8 ?_
  refine q_istore_n [(2, .int (S.2.1 (p + 11) x1.toNatClampNeg)), (0, .ref p), (1, .int x1)] rfl (by decide) rfl dX5_takes_9 ?_
  refine q_iload_n 0 rfl rfl dX5_takes_10 ?_
  refine q_bipush (v := (39 : Int32)) (by decide) dX5_takes_11 ?_
  refine q_icmp_eq 22 (by decide) dX5_takes_13 (fun c => ?_) (fun c => ?_)
  · rw [if_pos c] at h
    refine q_aload_n 1 rfl rfl dX5_takes_22 ?_
    refine q_getR (q_shP0 w hp) (by decide) (by decide) rfl lfX5_36 dX5_takes_23 (r := (p + 25)) (q_wrP0_6 w hp) ?_
    refine q_aload_n 1 rfl rfl dX5_takes_26 ?_
    refine q_getR (q_shP0 w hp) (by decide) (by decide) rfl lfX5_21 dX5_takes_27 (r := (p + 10)) (q_wrP0_1 w hp) ?_
    refine q_getRN (q_shP10 w hp) (by decide) (by decide) rfl lfX5_109 dX5_takes_30 (r := (p + 12)) (q_wrP10_2 w hp) ?_
    refine q_iload_n 2 rfl rfl dX5_takes_33 ?_
    obtain ⟨hg2, h⟩ := q_guard h
    refine q_iald (q_shP12 w hp) (q_inb_in hg2) dX5_takes_34 ?_
    obtain ⟨hg3, h⟩ := q_guard h
    refine q_iald (q_shP25 w hp) (q_inb_in hg3) dX5_takes_35 ?_
    refine q_goto 44 (by decide) dX5_takes_36 ?_
    obtain rfl := Option.some.inj h
    exact q_iret rfl rfl dX5_takes_44 hQ
  · rw [if_neg c] at h
    refine q_iload_n 0 rfl rfl dX5_takes_16 ?_
    refine q_bipush (v := (40 : Int32)) (by decide) dX5_takes_17 ?_
    refine q_icmp_ne 39 (by decide) dX5_takes_19 (fun c => ?_) (fun c => ?_)
    · rw [if_neg c] at h
      refine q_getsT (j := 0) (r := 1000200) rfl rfl lfX5_112 dX5_takes_39 ?_
      refine q_iload_n 0 rfl rfl dX5_takes_42 ?_
      obtain ⟨hg4, h⟩ := q_guard h
      refine q_tabI (j := 0) rfl rfl (q_inb_in hg4) dX5_takes_43 ?_
      obtain rfl := Option.some.inj h
      exact q_iret rfl rfl dX5_takes_44 hQ
    · rw [if_pos c] at h
      refine q_aload_n 1 rfl rfl dX5_takes_22 ?_
      refine q_getR (q_shP0 w hp) (by decide) (by decide) rfl lfX5_36 dX5_takes_23 (r := (p + 25)) (q_wrP0_6 w hp) ?_
      refine q_aload_n 1 rfl rfl dX5_takes_26 ?_
      refine q_getR (q_shP0 w hp) (by decide) (by decide) rfl lfX5_21 dX5_takes_27 (r := (p + 10)) (q_wrP0_1 w hp) ?_
      refine q_getRN (q_shP10 w hp) (by decide) (by decide) rfl lfX5_109 dX5_takes_30 (r := (p + 12)) (q_wrP10_2 w hp) ?_
      refine q_iload_n 2 rfl rfl dX5_takes_33 ?_
      obtain ⟨hg5, h⟩ := q_guard h
      refine q_iald (q_shP12 w hp) (q_inb_in hg5) dX5_takes_34 ?_
      obtain ⟨hg6, h⟩ := q_guard h
      refine q_iald (q_shP25 w hp) (q_inb_in hg6) dX5_takes_35 ?_
      refine q_goto 44 (by decide) dX5_takes_36 ?_
      obtain rfl := Option.some.inj h
      exact q_iret rfl rfl dX5_takes_44 hQ
set_option maxRecDepth 20000 in
theorem kX5_leaves_22 {S : QS} {g : QG} {Q : Option Value → QS → Prop} {p : Nat} {y1 : Int32} {r : Int32} (w : q_Wire S) (hp : q_pok p) (h : fX5_leaves_22 S p y1 = some r) (hQ : Q (some (.int r)) S) : q_L g mX5_leaves 0 0 0 Q 0 0 22 [(0, .ref p), (1, .int y1)] [] S := by
  unfold fX5_leaves_22 at h
  refine q_aload_n 0 rfl rfl dX5_leaves_22 ?_
  refine q_getR (q_shP0 w hp) (by decide) (by decide) rfl lfX5_42 dX5_leaves_23 (r := (p + 27)) (q_wrP0_8 w hp) ?_
  refine q_aload_n 0 rfl rfl dX5_leaves_26 ?_
  refine q_getR (q_shP0 w hp) (by decide) (by decide) rfl lfX5_21 dX5_leaves_27 (r := (p + 10)) (q_wrP0_1 w hp) ?_
  refine q_getRN (q_shP10 w hp) (by decide) (by decide) rfl lfX5_109 dX5_leaves_30 (r := (p + 12)) (q_wrP10_2 w hp) ?_
  refine q_iload_n 1 rfl rfl dX5_leaves_33 ?_
  obtain ⟨hg1, h⟩ := q_guard h
  refine q_iald (q_shP12 w hp) (q_inb_in hg1) dX5_leaves_34 ?_
  obtain ⟨hg2, h⟩ := q_guard h
  refine q_iald (q_shP27 w hp) (q_inb_in hg2) dX5_leaves_35 ?_
  refine q_bipush (v := (68 : Int32)) (by decide) dX5_leaves_36 ?_
  refine q_icmp_ne 45 (by decide) dX5_leaves_38 (fun c => ?_) (fun c => ?_)
  · rw [if_neg c] at h
    refine q_iconst (v := (1 : Int32)) (by decide) dX5_leaves_45 ?_
    obtain rfl := Option.some.inj h
    exact q_iret rfl rfl dX5_leaves_46 hQ
  · rw [if_pos c] at h
    refine q_iconst (v := (0 : Int32)) (by decide) dX5_leaves_41 ?_
    refine q_goto 46 (by decide) dX5_leaves_42 ?_
    obtain rfl := Option.some.inj h
    exact q_iret rfl rfl dX5_leaves_46 hQ
set_option maxRecDepth 20000 in
theorem kX5_leaves {S : QS} {g : QG} {Q : Option Value → QS → Prop} {p : Nat} {x1 : Int32} {r : Int32} (w : q_Wire S) (hp : q_pok p) (h : fX5_leaves S p x1 = some r) (hQ : Q (some (.int r)) S) : q_M g mX5_leaves 0 0 0 [.ref p, .int x1] S Q := by
  unfold fX5_leaves at h
  show q_L g mX5_leaves 0 0 0 Q 0 0 0 [(0, .ref p), (1, .int x1)] [] S
  refine q_aload_n 0 rfl rfl dX5_leaves_0 ?_
  refine q_getR (q_shP0 w hp) (by decide) (by decide) rfl lfX5_21 dX5_leaves_1 (r := (p + 10)) (q_wrP0_1 w hp) ?_
  refine q_getRN (q_shP10 w hp) (by decide) (by decide) rfl lfX5_106 dX5_leaves_4 (r := (p + 11)) (q_wrP10_1 w hp) ?_
  refine q_iload_n 1 rfl rfl dX5_leaves_7 ?_
  obtain ⟨hg3, h⟩ := q_guard h
  refine q_iald (q_shP11 w hp) (q_inb_in hg3) dX5_leaves_8 ?_
  refine q_istore_n [(2, .int (S.2.1 (p + 11) x1.toNatClampNeg)), (0, .ref p), (1, .int x1)] rfl (by decide) rfl dX5_leaves_9 ?_
  refine q_iload_n 0 rfl rfl dX5_leaves_10 ?_
  refine q_bipush (v := (39 : Int32)) (by decide) dX5_leaves_11 ?_
  refine q_icmp_eq 22 (by decide) dX5_leaves_13 (fun c => ?_) (fun c => ?_)
  · rw [if_pos c] at h
    refine q_sub [1, 2] rfl ?_
    exact kX5_leaves_22 w hp h hQ
  · rw [if_neg c] at h
    refine q_iload_n 0 rfl rfl dX5_leaves_16 ?_
    refine q_bipush (v := (40 : Int32)) (by decide) dX5_leaves_17 ?_
    refine q_icmp_ne 47 (by decide) dX5_leaves_19 (fun c => ?_) (fun c => ?_)
    · rw [if_neg c] at h
      refine q_getsT (j := 1) (r := 1000201) rfl rfl lfX5_115 dX5_leaves_47 ?_
      refine q_iload_n 0 rfl rfl dX5_leaves_50 ?_
      obtain ⟨hg4, h⟩ := q_guard h
      refine q_tabI (j := 1) rfl rfl (q_inb_in hg4) dX5_leaves_51 ?_
      obtain rfl := Option.some.inj h
      exact q_iret rfl rfl dX5_leaves_52 hQ
    · rw [if_pos c] at h
      refine q_sub [1, 2] rfl ?_
      exact kX5_leaves_22 w hp h hQ
set_option maxRecDepth 20000 in
theorem kX5_told {S : QS} {g : QG} {Q : Option Value → QS → Prop} {p : Nat} {x1 : Int32} {x2 : Int32} {r : Int32} (w : q_Wire S) (hp : q_pok p) (h : fX5_told S p x1 x2 = some r) (hQ : Q (some (.int r)) S) : q_M g mX5_told 0 0 0 [.ref p, .int x1, .int x2] S Q := by
  unfold fX5_told at h
  show q_L g mX5_told 0 0 0 Q 0 0 0 [(0, .ref p), (1, .int x1), (2, .int x2)] [] S
  refine q_aload_n 0 rfl rfl dX5_told_0 ?_
  refine q_getR (q_shP0 w hp) (by decide) (by decide) rfl lfX5_21 dX5_told_1 (r := (p + 10)) (q_wrP0_1 w hp) ?_
  refine q_getRN (q_shP10 w hp) (by decide) (by decide) rfl lfX5_109 dX5_told_4 (r := (p + 12)) (q_wrP10_2 w hp) ?_
  refine q_iload_n 1 rfl rfl dX5_told_7 ?_
  obtain ⟨hg1, h⟩ := q_guard h
  refine q_iald (q_shP12 w hp) (q_inb_in hg1) dX5_told_8 ?_
  refine q_istore_n [(3, .int (S.2.1 (p + 12) x1.toNatClampNeg)), (0, .ref p), (1, .int x1), (2, .int x2)] rfl (by decide) rfl dX5_told_9 ?_
  refine q_aload_n 1 rfl rfl dX5_told_10 ?_
  refine q_getR (q_shP0 w hp) (by decide) (by decide) rfl lfX5_21 dX5_told_11 (r := (p + 10)) (q_wrP0_1 w hp) ?_
  refine q_getRN (q_shP10 w hp) (by decide) (by decide) rfl lfX5_118 dX5_told_14 (r := (p + 13)) (q_wrP10_3 w hp) ?_
  refine q_iload_n 2 rfl rfl dX5_told_17 ?_
  obtain ⟨hg2, h⟩ := q_guard h
  refine q_iald (q_shP13 w hp) (q_inb_in hg2) dX5_told_18 ?_
  refine q_istore [(4, .int (S.2.1 (p + 13) x1.toNatClampNeg)), (3, .int (S.2.1 (p + 12) x1.toNatClampNeg)), (0, .ref p), (1, .int x1), (2, .int x2)] (by decide) rfl dX5_told_19 ?_
  refine q_aload_n 2 rfl rfl dX5_told_21 ?_
  refine q_getR (q_shP0 w hp) (by decide) (by decide) rfl lfX5_21 dX5_told_22 (r := (p + 10)) (q_wrP0_1 w hp) ?_
  refine q_getRN (q_shP10 w hp) (by decide) (by decide) rfl lfX5_106 dX5_told_25 (r := (p + 11)) (q_wrP10_1 w hp) ?_
  refine q_iload_n 3 rfl rfl dX5_told_28 ?_
  obtain ⟨hg3, h⟩ := q_guard h
  refine q_iald (q_shP11 w hp) (q_inb_in hg3) dX5_told_29 ?_
  by_cases c4 : (S.2.1 (p + 11) x1.toNatClampNeg) = (3 : Int32) ∨ (S.2.1 (p + 11) x1.toNatClampNeg) = (5 : Int32) ∨ (S.2.1 (p + 11) x1.toNatClampNeg) = (6 : Int32) ∨ (S.2.1 (p + 11) x1.toNatClampNeg) = (7 : Int32)
  · rw [if_pos c4] at h
    have K : ∀ (hK : True), q_L g mX5_told 0 0 0 Q 0 0 204 [(4, .int (S.2.1 (p + 13) x1.toNatClampNeg)), (3, .int (S.2.1 (p + 12) x1.toNatClampNeg)), (0, .ref p), (1, .int x1), (2, .int x2)] [] S := by
      intro _
      refine q_bipush (v := (67 : Int32)) (by decide) dX5_told_204 ?_
      obtain rfl := Option.some.inj h
      exact q_iret rfl rfl dX5_told_206 hQ
    rcases c4 with c4 | c4 | c4 | c4
    · exact q_tabIn (M := mX5_told) (pc := 30) (x := (S.2.1 (p + 11) x1.toNatClampNeg)) 204 (by rw [c4]; decide) (by rw [c4]; decide) (by rw [c4]; rfl) (by decide) dX5_told_30 (K trivial)
    · exact q_tabIn (M := mX5_told) (pc := 30) (x := (S.2.1 (p + 11) x1.toNatClampNeg)) 204 (by rw [c4]; decide) (by rw [c4]; decide) (by rw [c4]; rfl) (by decide) dX5_told_30 (K trivial)
    · exact q_tabIn (M := mX5_told) (pc := 30) (x := (S.2.1 (p + 11) x1.toNatClampNeg)) 204 (by rw [c4]; decide) (by rw [c4]; decide) (by rw [c4]; rfl) (by decide) dX5_told_30 (K trivial)
    · exact q_tabIn (M := mX5_told) (pc := 30) (x := (S.2.1 (p + 11) x1.toNatClampNeg)) 204 (by rw [c4]; decide) (by rw [c4]; decide) (by rw [c4]; rfl) (by decide) dX5_told_30 (K trivial)
  rw [if_neg c4] at h
  by_cases c5 : (S.2.1 (p + 11) x1.toNatClampNeg) = (26 : Int32) ∨ (S.2.1 (p + 11) x1.toNatClampNeg) = (27 : Int32) ∨ (S.2.1 (p + 11) x1.toNatClampNeg) = (28 : Int32) ∨ (S.2.1 (p + 11) x1.toNatClampNeg) = (29 : Int32) ∨ (S.2.1 (p + 11) x1.toNatClampNeg) = (37 : Int32) ∨ (S.2.1 (p + 11) x1.toNatClampNeg) = (38 : Int32)
  · rw [if_pos c5] at h
    have K : ∀ (hK : True), q_L g mX5_told 0 0 0 Q 0 0 207 [(4, .int (S.2.1 (p + 13) x1.toNatClampNeg)), (3, .int (S.2.1 (p + 12) x1.toNatClampNeg)), (0, .ref p), (1, .int x1), (2, .int x2)] [] S := by
      intro _
      refine q_iconst (v := (0 : Int32)) (by decide) dX5_told_207 ?_
      obtain rfl := Option.some.inj h
      exact q_iret rfl rfl dX5_told_208 hQ
    rcases c5 with c5 | c5 | c5 | c5 | c5 | c5
    · exact q_tabIn (M := mX5_told) (pc := 30) (x := (S.2.1 (p + 11) x1.toNatClampNeg)) 207 (by rw [c5]; decide) (by rw [c5]; decide) (by rw [c5]; rfl) (by decide) dX5_told_30 (K trivial)
    · exact q_tabIn (M := mX5_told) (pc := 30) (x := (S.2.1 (p + 11) x1.toNatClampNeg)) 207 (by rw [c5]; decide) (by rw [c5]; decide) (by rw [c5]; rfl) (by decide) dX5_told_30 (K trivial)
    · exact q_tabIn (M := mX5_told) (pc := 30) (x := (S.2.1 (p + 11) x1.toNatClampNeg)) 207 (by rw [c5]; decide) (by rw [c5]; decide) (by rw [c5]; rfl) (by decide) dX5_told_30 (K trivial)
    · exact q_tabIn (M := mX5_told) (pc := 30) (x := (S.2.1 (p + 11) x1.toNatClampNeg)) 207 (by rw [c5]; decide) (by rw [c5]; decide) (by rw [c5]; rfl) (by decide) dX5_told_30 (K trivial)
    · exact q_tabIn (M := mX5_told) (pc := 30) (x := (S.2.1 (p + 11) x1.toNatClampNeg)) 207 (by rw [c5]; decide) (by rw [c5]; decide) (by rw [c5]; rfl) (by decide) dX5_told_30 (K trivial)
    · exact q_tabIn (M := mX5_told) (pc := 30) (x := (S.2.1 (p + 11) x1.toNatClampNeg)) 207 (by rw [c5]; decide) (by rw [c5]; decide) (by rw [c5]; rfl) (by decide) dX5_told_30 (K trivial)
  rw [if_neg c5] at h
  by_cases c6 : (S.2.1 (p + 11) x1.toNatClampNeg) = (32 : Int32)
  · rw [if_pos c6] at h
    refine q_tabIn (M := mX5_told) (pc := 30) (x := (S.2.1 (p + 11) x1.toNatClampNeg)) 209 (by rw [c6]; decide) (by rw [c6]; decide) (by rw [c6]; rfl) (by decide) dX5_told_30 ?_
    refine q_bipush (v := (69 : Int32)) (by decide) dX5_told_209 ?_
    obtain rfl := Option.some.inj h
    exact q_iret rfl rfl dX5_told_211 hQ
  rw [if_neg c6] at h
  by_cases c7 : (S.2.1 (p + 11) x1.toNatClampNeg) = (33 : Int32)
  · rw [if_pos c7] at h
    refine q_tabIn (M := mX5_told) (pc := 30) (x := (S.2.1 (p + 11) x1.toNatClampNeg)) 212 (by rw [c7]; decide) (by rw [c7]; decide) (by rw [c7]; rfl) (by decide) dX5_told_30 ?_
    refine q_iload_n 4 rfl rfl dX5_told_212 ?_
    refine q_if_ne 221 (by decide) dX5_told_213 (fun c => ?_) (fun c => ?_)
    · rw [if_neg c] at h
      refine q_bipush (v := (66 : Int32)) (by decide) dX5_told_221 ?_
      obtain rfl := Option.some.inj h
      exact q_iret rfl rfl dX5_told_223 hQ
    · rw [if_pos c] at h
      refine q_bipush (v := (69 : Int32)) (by decide) dX5_told_216 ?_
      refine q_goto 223 (by decide) dX5_told_218 ?_
      obtain rfl := Option.some.inj h
      exact q_iret rfl rfl dX5_told_223 hQ
  rw [if_neg c7] at h
  by_cases c8 : (S.2.1 (p + 11) x1.toNatClampNeg) = (34 : Int32)
  · rw [if_pos c8] at h
    refine q_tabIn (M := mX5_told) (pc := 30) (x := (S.2.1 (p + 11) x1.toNatClampNeg)) 224 (by rw [c8]; decide) (by rw [c8]; decide) (by rw [c8]; rfl) (by decide) dX5_told_30 ?_
    refine q_iload_n 4 rfl rfl dX5_told_224 ?_
    refine q_if_ne 233 (by decide) dX5_told_225 (fun c => ?_) (fun c => ?_)
    · rw [if_neg c] at h
      refine q_iload_n 4 rfl rfl dX5_told_233 ?_
      refine q_iconst (v := (1 : Int32)) (by decide) dX5_told_234 ?_
      refine q_icmp_ne 243 (by decide) dX5_told_235 (fun c => ?_) (fun c => ?_)
      · rw [if_neg c] at h
        refine q_bipush (v := (67 : Int32)) (by decide) dX5_told_243 ?_
        obtain rfl := Option.some.inj h
        exact q_iret rfl rfl dX5_told_245 hQ
      · rw [if_pos c] at h
        refine q_bipush (v := (66 : Int32)) (by decide) dX5_told_238 ?_
        refine q_goto 245 (by decide) dX5_told_240 ?_
        obtain rfl := Option.some.inj h
        exact q_iret rfl rfl dX5_told_245 hQ
    · rw [if_pos c] at h
      refine q_bipush (v := (69 : Int32)) (by decide) dX5_told_228 ?_
      refine q_goto 245 (by decide) dX5_told_230 ?_
      obtain rfl := Option.some.inj h
      exact q_iret rfl rfl dX5_told_245 hQ
  rw [if_neg c8] at h
  by_cases c9 : (S.2.1 (p + 11) x1.toNatClampNeg) = (35 : Int32)
  · rw [if_pos c9] at h
    refine q_tabIn (M := mX5_told) (pc := 30) (x := (S.2.1 (p + 11) x1.toNatClampNeg)) 246 (by rw [c9]; decide) (by rw [c9]; decide) (by rw [c9]; rfl) (by decide) dX5_told_30 ?_
    refine q_iload 0 rfl dX5_told_246 ?_
    obtain rfl := Option.some.inj h
    exact q_iret rfl rfl dX5_told_248 hQ
  rw [if_neg c9] at h
  by_cases c10 : (S.2.1 (p + 11) x1.toNatClampNeg) = (36 : Int32)
  · rw [if_pos c10] at h
    refine q_tabIn (M := mX5_told) (pc := 30) (x := (S.2.1 (p + 11) x1.toNatClampNeg)) 249 (by rw [c10]; decide) (by rw [c10]; decide) (by rw [c10]; rfl) (by decide) dX5_told_30 ?_
    refine q_iload_n 4 rfl rfl dX5_told_249 ?_
    refine q_if_ne 258 (by decide) dX5_told_250 (fun c => ?_) (fun c => ?_)
    · rw [if_neg c] at h
      refine q_aload_n 2 rfl rfl dX5_told_258 ?_
      refine q_getR (q_shP0 w hp) (by decide) (by decide) rfl lfX5_12 dX5_told_259 (r := (p + 1)) (q_wrP0_0 w hp) ?_
      refine q_getRN (q_shP1 w hp) (by decide) (by decide) rfl lfX5_121 dX5_told_262 (r := (p + 8)) (q_wrP1_8 w hp) ?_
      refine q_iload_n 1 rfl rfl dX5_told_265 ?_
      obtain ⟨hg11, h⟩ := q_guard h
      refine q_iald (q_shP8 w hp) (q_inb_in hg11) dX5_told_266 ?_
      obtain rfl := Option.some.inj h
      exact q_iret rfl rfl dX5_told_267 hQ
    · rw [if_pos c] at h
      refine q_iload 0 rfl dX5_told_253 ?_
      refine q_goto 267 (by decide) dX5_told_255 ?_
      obtain rfl := Option.some.inj h
      exact q_iret rfl rfl dX5_told_267 hQ
  rw [if_neg c10] at h
  by_cases c12 : (S.2.1 (p + 11) x1.toNatClampNeg) = (39 : Int32)
  · rw [if_pos c12] at h
    refine q_tabIn (M := mX5_told) (pc := 30) (x := (S.2.1 (p + 11) x1.toNatClampNeg)) 268 (by rw [c12]; decide) (by rw [c12]; decide) (by rw [c12]; rfl) (by decide) dX5_told_30 ?_
    refine q_aload_n 2 rfl rfl dX5_told_268 ?_
    refine q_getR (q_shP0 w hp) (by decide) (by decide) rfl lfX5_39 dX5_told_269 (r := (p + 26)) (q_wrP0_7 w hp) ?_
    refine q_iload_n 1 rfl rfl dX5_told_272 ?_
    refine q_bipush (v := (12 : Int32)) (by decide) dX5_told_273 ?_
    refine q_imul dX5_told_275 ?_
    refine q_iload_n 4 rfl rfl dX5_told_276 ?_
    refine q_iadd dX5_told_277 ?_
    obtain ⟨hg13, h⟩ := q_guard h
    refine q_iald (q_shP26 w hp) (q_inb_in hg13) dX5_told_278 ?_
    obtain rfl := Option.some.inj h
    exact q_iret rfl rfl dX5_told_279 hQ
  rw [if_neg c12] at h
  by_cases c14 : (S.2.1 (p + 11) x1.toNatClampNeg) = (40 : Int32)
  · rw [if_pos c14] at h
    refine q_tabIn (M := mX5_told) (pc := 30) (x := (S.2.1 (p + 11) x1.toNatClampNeg)) 280 (by rw [c14]; decide) (by rw [c14]; decide) (by rw [c14]; rfl) (by decide) dX5_told_30 ?_
    refine q_iload_n 4 rfl rfl dX5_told_280 ?_
    refine q_if_ne 289 (by decide) dX5_told_281 (fun c => ?_) (fun c => ?_)
    · rw [if_neg c] at h
      refine q_aload_n 2 rfl rfl dX5_told_289 ?_
      refine q_getR (q_shP0 w hp) (by decide) (by decide) rfl lfX5_39 dX5_told_290 (r := (p + 26)) (q_wrP0_7 w hp) ?_
      refine q_iload_n 1 rfl rfl dX5_told_293 ?_
      refine q_bipush (v := (12 : Int32)) (by decide) dX5_told_294 ?_
      refine q_imul dX5_told_296 ?_
      refine q_iload_n 4 rfl rfl dX5_told_297 ?_
      refine q_iadd dX5_told_298 ?_
      obtain ⟨hg15, h⟩ := q_guard h
      refine q_iald (q_shP26 w hp) (q_inb_in hg15) dX5_told_299 ?_
      obtain rfl := Option.some.inj h
      exact q_iret rfl rfl dX5_told_300 hQ
    · rw [if_pos c] at h
      refine q_iload 0 rfl dX5_told_284 ?_
      refine q_goto 300 (by decide) dX5_told_286 ?_
      obtain rfl := Option.some.inj h
      exact q_iret rfl rfl dX5_told_300 hQ
  rw [if_neg c14] at h
  by_cases c16 : (S.2.1 (p + 11) x1.toNatClampNeg) = (41 : Int32)
  · rw [if_pos c16] at h
    refine q_tabIn (M := mX5_told) (pc := 30) (x := (S.2.1 (p + 11) x1.toNatClampNeg)) 301 (by rw [c16]; decide) (by rw [c16]; decide) (by rw [c16]; rfl) (by decide) dX5_told_30 ?_
    refine q_iconst (v := (1 : Int32)) (by decide) dX5_told_301 ?_
    obtain rfl := Option.some.inj h
    exact q_iret rfl rfl dX5_told_302 hQ
  rw [if_neg c16] at h
  by_cases c17 : (S.2.1 (p + 11) x1.toNatClampNeg) = (42 : Int32)
  · rw [if_pos c17] at h
    refine q_tabIn (M := mX5_told) (pc := 30) (x := (S.2.1 (p + 11) x1.toNatClampNeg)) 303 (by rw [c17]; decide) (by rw [c17]; decide) (by rw [c17]; rfl) (by decide) dX5_told_30 ?_
    refine q_aload_n 2 rfl rfl dX5_told_303 ?_
    refine q_getR (q_shP0 w hp) (by decide) (by decide) rfl lfX5_42 dX5_told_304 (r := (p + 27)) (q_wrP0_8 w hp) ?_
    refine q_aload_n 2 rfl rfl dX5_told_307 ?_
    refine q_getR (q_shP0 w hp) (by decide) (by decide) rfl lfX5_21 dX5_told_308 (r := (p + 10)) (q_wrP0_1 w hp) ?_
    refine q_getRN (q_shP10 w hp) (by decide) (by decide) rfl lfX5_124 dX5_told_311 (r := (p + 15)) (q_wrP10_5 w hp) ?_
    refine q_iload_n 3 rfl rfl dX5_told_314 ?_
    obtain ⟨hg18, h⟩ := q_guard h
    refine q_iald (q_shP15 w hp) (q_inb_in hg18) dX5_told_315 ?_
    obtain ⟨hg19, h⟩ := q_guard h
    refine q_iald (q_shP27 w hp) (q_inb_in hg19) dX5_told_316 ?_
    obtain rfl := Option.some.inj h
    exact q_iret rfl rfl dX5_told_317 hQ
  rw [if_neg c17] at h
  have n20 : ¬ (S.2.1 (p + 11) x1.toNatClampNeg) = (3 : Int32) := (fun q => c4 (Or.inl q))
  have n21 : ¬ (S.2.1 (p + 11) x1.toNatClampNeg) = (5 : Int32) := (fun q => c4 (Or.inr (Or.inl q)))
  have n22 : ¬ (S.2.1 (p + 11) x1.toNatClampNeg) = (6 : Int32) := (fun q => c4 (Or.inr (Or.inr (Or.inl q))))
  have n23 : ¬ (S.2.1 (p + 11) x1.toNatClampNeg) = (7 : Int32) := (fun q => c4 (Or.inr (Or.inr (Or.inr (q)))))
  have n24 : ¬ (S.2.1 (p + 11) x1.toNatClampNeg) = (26 : Int32) := (fun q => c5 (Or.inl q))
  have n25 : ¬ (S.2.1 (p + 11) x1.toNatClampNeg) = (27 : Int32) := (fun q => c5 (Or.inr (Or.inl q)))
  have n26 : ¬ (S.2.1 (p + 11) x1.toNatClampNeg) = (28 : Int32) := (fun q => c5 (Or.inr (Or.inr (Or.inl q))))
  have n27 : ¬ (S.2.1 (p + 11) x1.toNatClampNeg) = (29 : Int32) := (fun q => c5 (Or.inr (Or.inr (Or.inr (Or.inl q)))))
  have n28 : ¬ (S.2.1 (p + 11) x1.toNatClampNeg) = (37 : Int32) := (fun q => c5 (Or.inr (Or.inr (Or.inr (Or.inr (Or.inl q))))))
  have n29 : ¬ (S.2.1 (p + 11) x1.toNatClampNeg) = (38 : Int32) := (fun q => c5 (Or.inr (Or.inr (Or.inr (Or.inr (Or.inr (q)))))))
  have K : ∀ (hK : True), q_L g mX5_told 0 0 0 Q 0 0 318 [(4, .int (S.2.1 (p + 13) x1.toNatClampNeg)), (3, .int (S.2.1 (p + 12) x1.toNatClampNeg)), (0, .ref p), (1, .int x1), (2, .int x2)] [] S := by
    intro _
    refine q_bipush (v := (66 : Int32)) (by decide) dX5_told_318 ?_
    obtain rfl := Option.some.inj h
    exact q_iret rfl rfl dX5_told_320 hQ
  by_cases n30 : (S.2.1 (p + 11) x1.toNatClampNeg) = (4 : Int32)
  · exact q_tabIn (M := mX5_told) (pc := 30) (x := (S.2.1 (p + 11) x1.toNatClampNeg)) 318 (by rw [n30]; decide) (by rw [n30]; decide) (by rw [n30]; rfl) (by decide) dX5_told_30 (K trivial)
  by_cases n31 : (S.2.1 (p + 11) x1.toNatClampNeg) = (8 : Int32)
  · exact q_tabIn (M := mX5_told) (pc := 30) (x := (S.2.1 (p + 11) x1.toNatClampNeg)) 318 (by rw [n31]; decide) (by rw [n31]; decide) (by rw [n31]; rfl) (by decide) dX5_told_30 (K trivial)
  by_cases n32 : (S.2.1 (p + 11) x1.toNatClampNeg) = (9 : Int32)
  · exact q_tabIn (M := mX5_told) (pc := 30) (x := (S.2.1 (p + 11) x1.toNatClampNeg)) 318 (by rw [n32]; decide) (by rw [n32]; decide) (by rw [n32]; rfl) (by decide) dX5_told_30 (K trivial)
  by_cases n33 : (S.2.1 (p + 11) x1.toNatClampNeg) = (10 : Int32)
  · exact q_tabIn (M := mX5_told) (pc := 30) (x := (S.2.1 (p + 11) x1.toNatClampNeg)) 318 (by rw [n33]; decide) (by rw [n33]; decide) (by rw [n33]; rfl) (by decide) dX5_told_30 (K trivial)
  by_cases n34 : (S.2.1 (p + 11) x1.toNatClampNeg) = (11 : Int32)
  · exact q_tabIn (M := mX5_told) (pc := 30) (x := (S.2.1 (p + 11) x1.toNatClampNeg)) 318 (by rw [n34]; decide) (by rw [n34]; decide) (by rw [n34]; rfl) (by decide) dX5_told_30 (K trivial)
  by_cases n35 : (S.2.1 (p + 11) x1.toNatClampNeg) = (12 : Int32)
  · exact q_tabIn (M := mX5_told) (pc := 30) (x := (S.2.1 (p + 11) x1.toNatClampNeg)) 318 (by rw [n35]; decide) (by rw [n35]; decide) (by rw [n35]; rfl) (by decide) dX5_told_30 (K trivial)
  by_cases n36 : (S.2.1 (p + 11) x1.toNatClampNeg) = (13 : Int32)
  · exact q_tabIn (M := mX5_told) (pc := 30) (x := (S.2.1 (p + 11) x1.toNatClampNeg)) 318 (by rw [n36]; decide) (by rw [n36]; decide) (by rw [n36]; rfl) (by decide) dX5_told_30 (K trivial)
  by_cases n37 : (S.2.1 (p + 11) x1.toNatClampNeg) = (14 : Int32)
  · exact q_tabIn (M := mX5_told) (pc := 30) (x := (S.2.1 (p + 11) x1.toNatClampNeg)) 318 (by rw [n37]; decide) (by rw [n37]; decide) (by rw [n37]; rfl) (by decide) dX5_told_30 (K trivial)
  by_cases n38 : (S.2.1 (p + 11) x1.toNatClampNeg) = (15 : Int32)
  · exact q_tabIn (M := mX5_told) (pc := 30) (x := (S.2.1 (p + 11) x1.toNatClampNeg)) 318 (by rw [n38]; decide) (by rw [n38]; decide) (by rw [n38]; rfl) (by decide) dX5_told_30 (K trivial)
  by_cases n39 : (S.2.1 (p + 11) x1.toNatClampNeg) = (16 : Int32)
  · exact q_tabIn (M := mX5_told) (pc := 30) (x := (S.2.1 (p + 11) x1.toNatClampNeg)) 318 (by rw [n39]; decide) (by rw [n39]; decide) (by rw [n39]; rfl) (by decide) dX5_told_30 (K trivial)
  by_cases n40 : (S.2.1 (p + 11) x1.toNatClampNeg) = (17 : Int32)
  · exact q_tabIn (M := mX5_told) (pc := 30) (x := (S.2.1 (p + 11) x1.toNatClampNeg)) 318 (by rw [n40]; decide) (by rw [n40]; decide) (by rw [n40]; rfl) (by decide) dX5_told_30 (K trivial)
  by_cases n41 : (S.2.1 (p + 11) x1.toNatClampNeg) = (18 : Int32)
  · exact q_tabIn (M := mX5_told) (pc := 30) (x := (S.2.1 (p + 11) x1.toNatClampNeg)) 318 (by rw [n41]; decide) (by rw [n41]; decide) (by rw [n41]; rfl) (by decide) dX5_told_30 (K trivial)
  by_cases n42 : (S.2.1 (p + 11) x1.toNatClampNeg) = (19 : Int32)
  · exact q_tabIn (M := mX5_told) (pc := 30) (x := (S.2.1 (p + 11) x1.toNatClampNeg)) 318 (by rw [n42]; decide) (by rw [n42]; decide) (by rw [n42]; rfl) (by decide) dX5_told_30 (K trivial)
  by_cases n43 : (S.2.1 (p + 11) x1.toNatClampNeg) = (20 : Int32)
  · exact q_tabIn (M := mX5_told) (pc := 30) (x := (S.2.1 (p + 11) x1.toNatClampNeg)) 318 (by rw [n43]; decide) (by rw [n43]; decide) (by rw [n43]; rfl) (by decide) dX5_told_30 (K trivial)
  by_cases n44 : (S.2.1 (p + 11) x1.toNatClampNeg) = (21 : Int32)
  · exact q_tabIn (M := mX5_told) (pc := 30) (x := (S.2.1 (p + 11) x1.toNatClampNeg)) 318 (by rw [n44]; decide) (by rw [n44]; decide) (by rw [n44]; rfl) (by decide) dX5_told_30 (K trivial)
  by_cases n45 : (S.2.1 (p + 11) x1.toNatClampNeg) = (22 : Int32)
  · exact q_tabIn (M := mX5_told) (pc := 30) (x := (S.2.1 (p + 11) x1.toNatClampNeg)) 318 (by rw [n45]; decide) (by rw [n45]; decide) (by rw [n45]; rfl) (by decide) dX5_told_30 (K trivial)
  by_cases n46 : (S.2.1 (p + 11) x1.toNatClampNeg) = (23 : Int32)
  · exact q_tabIn (M := mX5_told) (pc := 30) (x := (S.2.1 (p + 11) x1.toNatClampNeg)) 318 (by rw [n46]; decide) (by rw [n46]; decide) (by rw [n46]; rfl) (by decide) dX5_told_30 (K trivial)
  by_cases n47 : (S.2.1 (p + 11) x1.toNatClampNeg) = (24 : Int32)
  · exact q_tabIn (M := mX5_told) (pc := 30) (x := (S.2.1 (p + 11) x1.toNatClampNeg)) 318 (by rw [n47]; decide) (by rw [n47]; decide) (by rw [n47]; rfl) (by decide) dX5_told_30 (K trivial)
  by_cases n48 : (S.2.1 (p + 11) x1.toNatClampNeg) = (25 : Int32)
  · exact q_tabIn (M := mX5_told) (pc := 30) (x := (S.2.1 (p + 11) x1.toNatClampNeg)) 318 (by rw [n48]; decide) (by rw [n48]; decide) (by rw [n48]; rfl) (by decide) dX5_told_30 (K trivial)
  by_cases n49 : (S.2.1 (p + 11) x1.toNatClampNeg) = (30 : Int32)
  · exact q_tabIn (M := mX5_told) (pc := 30) (x := (S.2.1 (p + 11) x1.toNatClampNeg)) 318 (by rw [n49]; decide) (by rw [n49]; decide) (by rw [n49]; rfl) (by decide) dX5_told_30 (K trivial)
  by_cases n50 : (S.2.1 (p + 11) x1.toNatClampNeg) = (31 : Int32)
  · exact q_tabIn (M := mX5_told) (pc := 30) (x := (S.2.1 (p + 11) x1.toNatClampNeg)) 318 (by rw [n50]; decide) (by rw [n50]; decide) (by rw [n50]; rfl) (by decide) dX5_told_30 (K trivial)
  exact q_tabOut (M := mX5_told) (pc := 30) (x := (S.2.1 (p + 11) x1.toNatClampNeg)) 318 (by have := lv_neT (a := 3) n20 (by decide); have := lv_neT (a := 5) n21 (by decide); have := lv_neT (a := 6) n22 (by decide); have := lv_neT (a := 7) n23 (by decide); have := lv_neT (a := 26) n24 (by decide); have := lv_neT (a := 27) n25 (by decide); have := lv_neT (a := 28) n26 (by decide); have := lv_neT (a := 29) n27 (by decide); have := lv_neT (a := 37) n28 (by decide); have := lv_neT (a := 38) n29 (by decide); have := lv_neT (a := 32) c6 (by decide); have := lv_neT (a := 33) c7 (by decide); have := lv_neT (a := 34) c8 (by decide); have := lv_neT (a := 35) c9 (by decide); have := lv_neT (a := 36) c10 (by decide); have := lv_neT (a := 39) c12 (by decide); have := lv_neT (a := 40) c14 (by decide); have := lv_neT (a := 41) c16 (by decide); have := lv_neT (a := 42) c17 (by decide); have := lv_neT (a := 4) n30 (by decide); have := lv_neT (a := 8) n31 (by decide); have := lv_neT (a := 9) n32 (by decide); have := lv_neT (a := 10) n33 (by decide); have := lv_neT (a := 11) n34 (by decide); have := lv_neT (a := 12) n35 (by decide); have := lv_neT (a := 13) n36 (by decide); have := lv_neT (a := 14) n37 (by decide); have := lv_neT (a := 15) n38 (by decide); have := lv_neT (a := 16) n39 (by decide); have := lv_neT (a := 17) n40 (by decide); have := lv_neT (a := 18) n41 (by decide); have := lv_neT (a := 19) n42 (by decide); have := lv_neT (a := 20) n43 (by decide); have := lv_neT (a := 21) n44 (by decide); have := lv_neT (a := 22) n45 (by decide); have := lv_neT (a := 23) n46 (by decide); have := lv_neT (a := 24) n47 (by decide); have := lv_neT (a := 25) n48 (by decide); have := lv_neT (a := 30) n49 (by decide); have := lv_neT (a := 31) n50 (by decide); omega) (by decide) dX5_told_30 (K trivial)
set_option maxRecDepth 20000 in
theorem kX5_leftBy {S : QS} {g : QG} {Q : Option Value → QS → Prop} {p : Nat} {x1 : Int32} {r : Int32} (w : q_Wire S) (hp : q_pok p) (h : fX5_leftBy S p x1 = some r) (hQ : Q (some (.int r)) S) : q_M g mX5_leftBy 0 0 0 [.ref p, .int x1] S Q := by
  unfold fX5_leftBy at h
  show q_L g mX5_leftBy 0 0 0 Q 0 0 0 [(0, .ref p), (1, .int x1)] [] S
  refine q_aload_n 0 rfl rfl dX5_leftBy_0 ?_
  refine q_getR (q_shP0 w hp) (by decide) (by decide) rfl lfX5_21 dX5_leftBy_1 (r := (p + 10)) (q_wrP0_1 w hp) ?_
  refine q_getRN (q_shP10 w hp) (by decide) (by decide) rfl lfX5_106 dX5_leftBy_4 (r := (p + 11)) (q_wrP10_1 w hp) ?_
  refine q_iload_n 1 rfl rfl dX5_leftBy_7 ?_
  obtain ⟨hg1, h⟩ := q_guard h
  refine q_iald (q_shP11 w hp) (q_inb_in hg1) dX5_leftBy_8 ?_
  by_cases c2 : (S.2.1 (p + 11) x1.toNatClampNeg) = (1 : Int32)
  · rw [if_pos c2] at h
    refine q_lookup (M := mX5_leftBy) (pc := 9) (x := (S.2.1 (p + 11) x1.toNatClampNeg)) 76 (by decide) (by rw [c2] <;> rfl) (by decide) dX5_leftBy_9 ?_
    refine q_bipush (v := (65 : Int32)) (by decide) dX5_leftBy_76 ?_
    obtain rfl := Option.some.inj h
    exact q_iret rfl rfl dX5_leftBy_78 hQ
  rw [if_neg c2] at h
  by_cases c3 : (S.2.1 (p + 11) x1.toNatClampNeg) = (30 : Int32) ∨ (S.2.1 (p + 11) x1.toNatClampNeg) = (31 : Int32) ∨ (S.2.1 (p + 11) x1.toNatClampNeg) = (37 : Int32)
  · rw [if_pos c3] at h
    have K : ∀ (hK : True), q_L g mX5_leftBy 0 0 0 Q 0 0 79 [(0, .ref p), (1, .int x1)] [] S := by
      intro _
      refine q_aload_n 0 rfl rfl dX5_leftBy_79 ?_
      refine q_getR (q_shP0 w hp) (by decide) (by decide) rfl lfX5_21 dX5_leftBy_80 (r := (p + 10)) (q_wrP0_1 w hp) ?_
      refine q_getRN (q_shP10 w hp) (by decide) (by decide) rfl lfX5_109 dX5_leftBy_83 (r := (p + 12)) (q_wrP10_2 w hp) ?_
      refine q_iload_n 1 rfl rfl dX5_leftBy_86 ?_
      obtain ⟨hg4, h⟩ := q_guard h
      refine q_iald (q_shP12 w hp) (q_inb_in hg4) dX5_leftBy_87 ?_
      obtain rfl := Option.some.inj h
      exact q_iret rfl rfl dX5_leftBy_88 hQ
    rcases c3 with c3 | c3 | c3
    · exact q_lookup (M := mX5_leftBy) (pc := 9) (x := (S.2.1 (p + 11) x1.toNatClampNeg)) 79 (by decide) (by rw [c3] <;> rfl) (by decide) dX5_leftBy_9 (K trivial)
    · exact q_lookup (M := mX5_leftBy) (pc := 9) (x := (S.2.1 (p + 11) x1.toNatClampNeg)) 79 (by decide) (by rw [c3] <;> rfl) (by decide) dX5_leftBy_9 (K trivial)
    · exact q_lookup (M := mX5_leftBy) (pc := 9) (x := (S.2.1 (p + 11) x1.toNatClampNeg)) 79 (by decide) (by rw [c3] <;> rfl) (by decide) dX5_leftBy_9 (K trivial)
  rw [if_neg c3] at h
  by_cases c5 : (S.2.1 (p + 11) x1.toNatClampNeg) = (35 : Int32)
  · rw [if_pos c5] at h
    refine q_lookup (M := mX5_leftBy) (pc := 9) (x := (S.2.1 (p + 11) x1.toNatClampNeg)) 89 (by decide) (by rw [c5] <;> rfl) (by decide) dX5_leftBy_9 ?_
    refine q_aload_n 0 rfl rfl dX5_leftBy_89 ?_
    refine q_getR (q_shP0 w hp) (by decide) (by decide) rfl lfX5_12 dX5_leftBy_90 (r := (p + 1)) (q_wrP0_0 w hp) ?_
    refine q_getRN (q_shP1 w hp) (by decide) (by decide) rfl lfX5_121 dX5_leftBy_93 (r := (p + 8)) (q_wrP1_8 w hp) ?_
    refine q_aload_n 0 rfl rfl dX5_leftBy_96 ?_
    refine q_getR (q_shP0 w hp) (by decide) (by decide) rfl lfX5_21 dX5_leftBy_97 (r := (p + 10)) (q_wrP0_1 w hp) ?_
    refine q_getRN (q_shP10 w hp) (by decide) (by decide) rfl lfX5_109 dX5_leftBy_100 (r := (p + 12)) (q_wrP10_2 w hp) ?_
    refine q_iload_n 1 rfl rfl dX5_leftBy_103 ?_
    obtain ⟨hg6, h⟩ := q_guard h
    refine q_iald (q_shP12 w hp) (q_inb_in hg6) dX5_leftBy_104 ?_
    obtain ⟨hg7, h⟩ := q_guard h
    refine q_iald (q_shP8 w hp) (q_inb_in hg7) dX5_leftBy_105 ?_
    obtain rfl := Option.some.inj h
    exact q_iret rfl rfl dX5_leftBy_106 hQ
  rw [if_neg c5] at h
  by_cases c8 : (S.2.1 (p + 11) x1.toNatClampNeg) = (39 : Int32) ∨ (S.2.1 (p + 11) x1.toNatClampNeg) = (40 : Int32)
  · rw [if_pos c8] at h
    have K : ∀ (hK : True), q_L g mX5_leftBy 0 0 0 Q 0 0 107 [(0, .ref p), (1, .int x1)] [] S := by
      intro _
      refine q_aload_n 0 rfl rfl dX5_leftBy_107 ?_
      refine q_getR (q_shP0 w hp) (by decide) (by decide) rfl lfX5_42 dX5_leftBy_108 (r := (p + 27)) (q_wrP0_8 w hp) ?_
      refine q_aload_n 0 rfl rfl dX5_leftBy_111 ?_
      refine q_getR (q_shP0 w hp) (by decide) (by decide) rfl lfX5_21 dX5_leftBy_112 (r := (p + 10)) (q_wrP0_1 w hp) ?_
      refine q_getRN (q_shP10 w hp) (by decide) (by decide) rfl lfX5_109 dX5_leftBy_115 (r := (p + 12)) (q_wrP10_2 w hp) ?_
      refine q_iload_n 1 rfl rfl dX5_leftBy_118 ?_
      obtain ⟨hg9, h⟩ := q_guard h
      refine q_iald (q_shP12 w hp) (q_inb_in hg9) dX5_leftBy_119 ?_
      obtain ⟨hg10, h⟩ := q_guard h
      refine q_iald (q_shP27 w hp) (q_inb_in hg10) dX5_leftBy_120 ?_
      obtain rfl := Option.some.inj h
      exact q_iret rfl rfl dX5_leftBy_121 hQ
    rcases c8 with c8 | c8
    · exact q_lookup (M := mX5_leftBy) (pc := 9) (x := (S.2.1 (p + 11) x1.toNatClampNeg)) 107 (by decide) (by rw [c8] <;> rfl) (by decide) dX5_leftBy_9 (K trivial)
    · exact q_lookup (M := mX5_leftBy) (pc := 9) (x := (S.2.1 (p + 11) x1.toNatClampNeg)) 107 (by decide) (by rw [c8] <;> rfl) (by decide) dX5_leftBy_9 (K trivial)
  rw [if_neg c8] at h
  have n11 : ¬ (S.2.1 (p + 11) x1.toNatClampNeg) = (30 : Int32) := (fun q => c3 (Or.inl q))
  have n12 : ¬ (S.2.1 (p + 11) x1.toNatClampNeg) = (31 : Int32) := (fun q => c3 (Or.inr (Or.inl q)))
  have n13 : ¬ (S.2.1 (p + 11) x1.toNatClampNeg) = (37 : Int32) := (fun q => c3 (Or.inr (Or.inr (q))))
  have n14 : ¬ (S.2.1 (p + 11) x1.toNatClampNeg) = (39 : Int32) := (fun q => c8 (Or.inl q))
  have n15 : ¬ (S.2.1 (p + 11) x1.toNatClampNeg) = (40 : Int32) := (fun q => c8 (Or.inr (q)))
  refine q_lookup (M := mX5_leftBy) (pc := 9) (x := (S.2.1 (p + 11) x1.toNatClampNeg)) (off := 113) 122 (by decide) (by rw [lv_osw c2 (by decide), lv_osw n11 (by decide), lv_osw n12 (by decide), lv_osw c5 (by decide), lv_osw n13 (by decide), lv_osw n14 (by decide), lv_osw n15 (by decide)] <;> rfl) (by decide) dX5_leftBy_9 ?_
  refine q_bipush (v := (66 : Int32)) (by decide) dX5_leftBy_122 ?_
  obtain rfl := Option.some.inj h
  exact q_iret rfl rfl dX5_leftBy_124 hQ
set_option maxRecDepth 20000 in
theorem sX5_suits_127 {S : QS} {g : QG} {Q : Option Value → QS → Prop} {p : Nat} {a2 : Nat} {n2 : Nat} {y1 : Int32} {y4 : Int32} {y5 : Int32} {x : Int32} {z : (Bool) ⊕ (Int32)} (w : q_Wire S) (hp : q_pok p) (ha2 : S.1[a2]? = some (.inr (1, n2))) (h : tX5_suits_127 S p a2 n2 y1 y4 y5 x = some z) (hQ : (Sum.elim (fun r0 : Bool => Q (some (.int (q_b r0))) S) (fun y : Int32 => q_L g mX5_suits 2 0 0 Q 0 0 127 [(0, .ref p), (1, .int y1), (2, .ref a2), (4, .int y4), (5, .int y5), (6, .int y)] [] S) z)) : q_L g mX5_suits 2 0 0 Q 0 0 127 [(0, .ref p), (1, .int y1), (2, .ref a2), (4, .int y4), (5, .int y5), (6, .int x)] [] S := by
  unfold tX5_suits_127 at h
  refine q_iload 5 rfl dX5_suits_127 ?_
  refine q_iload 4 rfl dX5_suits_129 ?_
  refine q_icmp_ge 166 (by decide) dX5_suits_131 (fun c => ?_) (fun c => ?_)
  · rw [if_pos c] at h
    refine q_iconst (v := (1 : Int32)) (by decide) dX5_suits_166 ?_
    cases h
    exact q_iret rfl (by decide) dX5_suits_167 hQ
  · rw [if_neg c] at h
    refine q_aload_n 0 rfl rfl dX5_suits_134 ?_
    refine q_getR (q_shP0 w hp) (by decide) (by decide) rfl lfX5_12 dX5_suits_135 (r := (p + 1)) (q_wrP0_0 w hp) ?_
    refine q_aload_n 2 rfl rfl dX5_suits_138 ?_
    refine q_iload 3 rfl dX5_suits_139 ?_
    refine q_iload 5 rfl dX5_suits_141 ?_
    refine q_iadd dX5_suits_143 ?_
    obtain ⟨hg1, h⟩ := q_guard h
    refine q_bald ha2 (q_inb_in hg1) dX5_suits_144 ?_
    refine q_aload_n 0 rfl rfl dX5_suits_145 ?_
    refine q_iload_n 1 rfl rfl dX5_suits_146 ?_
    refine q_iload 5 rfl dX5_suits_147 ?_
    obtain ⟨r2, e3, h⟩ := q_bind h
    refine q_callV (ci := 5) (d := 1) (Mc := mX5_told) (kc := 0) (nc := 0) [.int y1, .int x] okX5_told (q_shP0 w hp) (by decide) rfl lmX5_131 inX5_told seX5_told rfl (Nat.le_of_ble_eq_true rfl) (Nat.le_of_ble_eq_true rfl) (Nat.le_refl _) (Nat.le_refl _) dX5_suits_149 (q_L.deep (by decide) (kX5_told (Q := fun r S' => r = some (.int r2) ∧ S' = S) w hp e3 ⟨rfl, rfl⟩)) (q_kI ?_)
    obtain ⟨r4, e5, h⟩ := q_bind h
    refine q_callV (ci := 0) (d := 1) (Mc := mX0_isBelow) (kc := 0) (nc := 0) [.int (S.2.1 a2 (y4 + x).toNatClampNeg), .int r2] okX0_isBelow (q_shP1 w hp) (by decide) rfl lmX5_135 inX0_isBelow seX0_isBelow rfl (Nat.le_of_ble_eq_true rfl) (Nat.le_of_ble_eq_true rfl) (Nat.le_refl _) (Nat.le_refl _) dX5_suits_152 (q_L.deep (by decide) (kX0_isBelow (Q := fun r S' => r = some (.int (q_b r4)) ∧ S' = S) w hp e5 ⟨rfl, rfl⟩)) (q_kI ?_)
    refine q_if_ne 160 (by decide) dX5_suits_155 (fun c => ?_) (fun c => ?_)
    · have c := q_b_n.mp c; rw [q_if1 c] at h
      refine q_iinc (v := (x + (1 : Int32))) 5 [(6, .int (x + (1 : Int32))), (0, .ref p), (1, .int y1), (2, .ref a2), (4, .int y4), (5, .int y5)] (by decide) rfl (congrArg (fun t => x + t) (by decide)) rfl dX5_suits_160 ?_
      refine q_goto 127 (by decide) dX5_suits_163 ?_
      refine q_sub [1, 2, 3, 4, 5, 0] rfl ?_
      cases h
      exact hQ
    · have c := q_b_0.mp c; rw [q_if0 c] at h
      refine q_iconst (v := (0 : Int32)) (by decide) dX5_suits_158 ?_
      cases h
      exact q_iret rfl (by decide) dX5_suits_159 hQ
theorem lX5_suits_127 {S : QS} {g : QG} {Q : Option Value → QS → Prop} {p : Nat} {a2 : Nat} {n2 : Nat} {y1 : Int32} {y4 : Int32} {y5 : Int32} {r : Bool} (w : q_Wire S) (hp : q_pok p) (ha2 : S.1[a2]? = some (.inr (1, n2))) (hQ : Q (some (.int (q_b r))) S) : ∀ (c : Nat) (x : Int32), q_it (tX5_suits_127 S p a2 n2 y1 y4 y5) c x = some r → q_L g mX5_suits 2 0 0 Q 0 0 127 [(0, .ref p), (1, .int y1), (2, .ref a2), (4, .int y4), (5, .int y5), (6, .int x)] [] S := by
  intro c
  induction c with
  | zero => intro x  h; cases h
  | succ c ih =>
    intro x  h
    simp only [q_it] at h
    cases hz : tX5_suits_127 S p a2 n2 y1 y4 y5 x with
    | none => rw [hz] at h; cases h
    | some z =>
      rw [hz] at h
      refine sX5_suits_127 w hp ha2 hz ?_
      rcases z with z | y
      · cases h; exact hQ
      · exact ih y  h
theorem kX5_suits_127 {S : QS} {g : QG} {Q : Option Value → QS → Prop} {p : Nat} {a2 : Nat} {n2 : Nat} {y1 : Int32} {y4 : Int32} {y5 : Int32} {y6 : Int32} {r : Bool} (w : q_Wire S) (hp : q_pok p) (ha2 : S.1[a2]? = some (.inr (1, n2))) (h : fX5_suits_127 S p a2 n2 y1 y4 y5 y6 = some r) (hQ : Q (some (.int (q_b r))) S) : q_L g mX5_suits 2 0 0 Q 0 0 127 [(0, .ref p), (1, .int y1), (2, .ref a2), (4, .int y4), (5, .int y5), (6, .int y6)] [] S := by
  obtain ⟨c, hc⟩ := q_run_it h
  exact lX5_suits_127 w hp ha2 hQ c y6  hc
set_option maxRecDepth 20000 in
theorem kX5_suits {S : QS} {g : QG} {Q : Option Value → QS → Prop} {p : Nat} {x1 : Int32} {a2 : Nat} {n2 : Nat} {x3 : Int32} {x4 : Int32} {r : Bool} (w : q_Wire S) (hp : q_pok p) (ha2 : S.1[a2]? = some (.inr (1, n2))) (h : fX5_suits S p x1 a2 n2 x3 x4 = some r) (hQ : Q (some (.int (q_b r))) S) : q_M g mX5_suits 2 0 0 [.ref p, .int x1, .ref a2, .int x3, .int x4] S Q := by
  unfold fX5_suits at h
  show q_L g mX5_suits 2 0 0 Q 0 0 0 [(0, .ref p), (1, .int x1), (2, .ref a2), (3, .int x3), (4, .int x4)] [] S
  refine q_aload_n 0 rfl rfl dX5_suits_0 ?_
  refine q_getR (q_shP0 w hp) (by decide) (by decide) rfl lfX5_21 dX5_suits_1 (r := (p + 10)) (q_wrP0_1 w hp) ?_
  refine q_getRN (q_shP10 w hp) (by decide) (by decide) rfl lfX5_106 dX5_suits_4 (r := (p + 11)) (q_wrP10_1 w hp) ?_
  refine q_iload_n 1 rfl rfl dX5_suits_7 ?_
  obtain ⟨hg6, h⟩ := q_guard h
  refine q_iald (q_shP11 w hp) (q_inb_in hg6) dX5_suits_8 ?_
  by_cases c7 : (S.2.1 (p + 11) x1.toNatClampNeg) = (2 : Int32)
  · rw [if_pos c7] at h
    refine q_lookup (M := mX5_suits) (pc := 9) (x := (S.2.1 (p + 11) x1.toNatClampNeg)) 44 (by decide) (by rw [c7] <;> rfl) (by decide) dX5_suits_9 ?_
    refine q_aload_n 2 rfl rfl dX5_suits_44 ?_
    refine q_iload_n 3 rfl rfl dX5_suits_45 ?_
    refine q_aload_n 0 rfl rfl dX5_suits_46 ?_
    refine q_getR (q_shP0 w hp) (by decide) (by decide) rfl lfX5_21 dX5_suits_47 (r := (p + 10)) (q_wrP0_1 w hp) ?_
    refine q_getRN (q_shP10 w hp) (by decide) (by decide) rfl lfX5_109 dX5_suits_50 (r := (p + 12)) (q_wrP10_2 w hp) ?_
    refine q_iload_n 1 rfl rfl dX5_suits_53 ?_
    obtain ⟨hg8, h⟩ := q_guard h
    refine q_iald (q_shP12 w hp) (q_inb_in hg8) dX5_suits_54 ?_
    refine q_iadd dX5_suits_55 ?_
    obtain ⟨hg9, h⟩ := q_guard h
    refine q_bald ha2 (q_inb_in hg9) dX5_suits_56 ?_
    refine q_bipush (v := (67 : Int32)) (by decide) dX5_suits_57 ?_
    refine q_icmp_eq 66 (by decide) dX5_suits_59 (fun c => ?_) (fun c => ?_)
    · rw [if_pos c] at h
      refine q_iconst (v := (0 : Int32)) (by decide) dX5_suits_66 ?_
      obtain rfl := Option.some.inj h
      exact q_iret rfl (by decide) dX5_suits_67 hQ
    · rw [if_neg c] at h
      refine q_iconst (v := (1 : Int32)) (by decide) dX5_suits_62 ?_
      refine q_goto 67 (by decide) dX5_suits_63 ?_
      obtain rfl := Option.some.inj h
      exact q_iret rfl (by decide) dX5_suits_67 hQ
  rw [if_neg c7] at h
  by_cases c10 : (S.2.1 (p + 11) x1.toNatClampNeg) = (4 : Int32)
  · rw [if_pos c10] at h
    refine q_lookup (M := mX5_suits) (pc := 9) (x := (S.2.1 (p + 11) x1.toNatClampNeg)) 68 (by decide) (by rw [c10] <;> rfl) (by decide) dX5_suits_9 ?_
    refine q_aload_n 2 rfl rfl dX5_suits_68 ?_
    refine q_iload_n 3 rfl rfl dX5_suits_69 ?_
    refine q_aload_n 0 rfl rfl dX5_suits_70 ?_
    refine q_getR (q_shP0 w hp) (by decide) (by decide) rfl lfX5_21 dX5_suits_71 (r := (p + 10)) (q_wrP0_1 w hp) ?_
    refine q_getRN (q_shP10 w hp) (by decide) (by decide) rfl lfX5_109 dX5_suits_74 (r := (p + 12)) (q_wrP10_2 w hp) ?_
    refine q_iload_n 1 rfl rfl dX5_suits_77 ?_
    obtain ⟨hg11, h⟩ := q_guard h
    refine q_iald (q_shP12 w hp) (q_inb_in hg11) dX5_suits_78 ?_
    refine q_iadd dX5_suits_79 ?_
    obtain ⟨hg12, h⟩ := q_guard h
    refine q_bald ha2 (q_inb_in hg12) dX5_suits_80 ?_
    refine q_bipush (v := (66 : Int32)) (by decide) dX5_suits_81 ?_
    refine q_icmp_ne 90 (by decide) dX5_suits_83 (fun c => ?_) (fun c => ?_)
    · rw [if_neg c] at h
      refine q_iconst (v := (0 : Int32)) (by decide) dX5_suits_90 ?_
      obtain rfl := Option.some.inj h
      exact q_iret rfl (by decide) dX5_suits_91 hQ
    · rw [if_pos c] at h
      refine q_iconst (v := (1 : Int32)) (by decide) dX5_suits_86 ?_
      refine q_goto 91 (by decide) dX5_suits_87 ?_
      obtain rfl := Option.some.inj h
      exact q_iret rfl (by decide) dX5_suits_91 hQ
  rw [if_neg c10] at h
  by_cases c13 : (S.2.1 (p + 11) x1.toNatClampNeg) = (43 : Int32)
  · rw [if_pos c13] at h
    refine q_lookup (M := mX5_suits) (pc := 9) (x := (S.2.1 (p + 11) x1.toNatClampNeg)) 92 (by decide) (by rw [c13] <;> rfl) (by decide) dX5_suits_9 ?_
    refine q_aload_n 0 rfl rfl dX5_suits_92 ?_
    refine q_getR (q_shP0 w hp) (by decide) (by decide) rfl lfX5_42 dX5_suits_93 (r := (p + 27)) (q_wrP0_8 w hp) ?_
    refine q_aload_n 0 rfl rfl dX5_suits_96 ?_
    refine q_getR (q_shP0 w hp) (by decide) (by decide) rfl lfX5_21 dX5_suits_97 (r := (p + 10)) (q_wrP0_1 w hp) ?_
    refine q_getRN (q_shP10 w hp) (by decide) (by decide) rfl lfX5_124 dX5_suits_100 (r := (p + 15)) (q_wrP10_5 w hp) ?_
    refine q_iload_n 1 rfl rfl dX5_suits_103 ?_
    obtain ⟨hg14, h⟩ := q_guard h
    refine q_iald (q_shP15 w hp) (q_inb_in hg14) dX5_suits_104 ?_
    obtain ⟨hg15, h⟩ := q_guard h
    refine q_iald (q_shP27 w hp) (q_inb_in hg15) dX5_suits_105 ?_
    refine q_bipush (v := (68 : Int32)) (by decide) dX5_suits_106 ?_
    refine q_icmp_ne 115 (by decide) dX5_suits_108 (fun c => ?_) (fun c => ?_)
    · rw [if_neg c] at h
      refine q_iconst (v := (0 : Int32)) (by decide) dX5_suits_115 ?_
      obtain rfl := Option.some.inj h
      exact q_iret rfl (by decide) dX5_suits_116 hQ
    · rw [if_pos c] at h
      refine q_iconst (v := (1 : Int32)) (by decide) dX5_suits_111 ?_
      refine q_goto 116 (by decide) dX5_suits_112 ?_
      obtain rfl := Option.some.inj h
      exact q_iret rfl (by decide) dX5_suits_116 hQ
  rw [if_neg c13] at h
  refine q_lookup (M := mX5_suits) (pc := 9) (x := (S.2.1 (p + 11) x1.toNatClampNeg)) (off := 108) 117 (by decide) (by rw [lv_osw c7 (by decide), lv_osw c10 (by decide), lv_osw c13 (by decide)] <;> rfl) (by decide) dX5_suits_9 ?_
  refine q_aload_n 0 rfl rfl dX5_suits_117 ?_
  refine q_iload_n 1 rfl rfl dX5_suits_118 ?_
  obtain ⟨r16, e17, h⟩ := q_bind h
  refine q_callV (ci := 5) (d := 1) (Mc := mX5_takes) (kc := 0) (nc := 0) [.int x1] okX5_takes (q_shP0 w hp) (by decide) rfl lmX5_127 inX5_takes seX5_takes rfl (Nat.le_of_ble_eq_true rfl) (Nat.le_of_ble_eq_true rfl) (Nat.le_refl _) (Nat.le_refl _) dX5_suits_119 (q_L.deep (by decide) (kX5_takes (Q := fun r S' => r = some (.int r16) ∧ S' = S) w hp e17 ⟨rfl, rfl⟩)) (q_kI ?_)
  refine q_istore [(5, .int r16), (0, .ref p), (1, .int x1), (2, .ref a2), (3, .int x3), (4, .int x4)] (by decide) rfl dX5_suits_122 ?_
  refine q_iconst (v := (0 : Int32)) (by decide) dX5_suits_124 ?_
  refine q_istore [(6, .int (0 : Int32)), (5, .int r16), (0, .ref p), (1, .int x1), (2, .ref a2), (3, .int x3), (4, .int x4)] (by decide) rfl dX5_suits_125 ?_
  refine q_sub [2, 3, 4, 6, 1, 0] rfl ?_
  exact kX5_suits_127 w hp ha2 h hQ
